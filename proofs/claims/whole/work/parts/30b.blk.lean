/-! THE METHODS OF THE MODEL, block by block -/
set_option maxRecDepth 100000 in
theorem b_Mo_init_0 (K : Cal) (a0 : Nat) (S : Sp) (M : Mm) : Run K tb_Mo_init 0 [vR 12 0 a0] [] S M =
  Run K tb_Mo_init 13 [vR 12 0 a0] [] (setRef (S ++ [(20, 4004, [])]) a0 0 S.length) M := (Run_EE K tb_Mo_init [13, 22, 27, 34, 57, 66, 75, 84, 89, 94, 101, 109, 116, 124, 132, 140, 147, 154] 500 0 _ _ S M).trans rfl
set_option maxRecDepth 100000 in
theorem b_Mo_init_13 (K : Cal) (a0 : Nat) (S : Sp) (M : Mm) : Run K tb_Mo_init 13 [vR 12 0 a0] [] S M =
  Run K tb_Mo_init 22 [vR 12 0 a0] [] (setRef (S ++ [(21, 144, [])]) a0 1 S.length) M := (Run_EE K tb_Mo_init [13, 22, 27, 34, 57, 66, 75, 84, 89, 94, 101, 109, 116, 124, 132, 140, 147, 154] 500 13 _ _ S M).trans rfl
set_option maxRecDepth 100000 in
theorem b_Mo_init_22 (K : Cal) (a0 : Nat) (S : Sp) (M : Mm) : Run K tb_Mo_init 22 [vR 12 0 a0] [] S M =
  Run K tb_Mo_init 27 [vR 12 0 a0] [] S (up M a0 4 1) := (Run_EE K tb_Mo_init [13, 22, 27, 34, 57, 66, 75, 84, 89, 94, 101, 109, 116, 124, 132, 140, 147, 154] 500 22 _ _ S M).trans rfl
set_option maxRecDepth 100000 in
theorem b_Mo_init_27 (K : Cal) (a0 : Nat) (S : Sp) (M : Mm) : Run K tb_Mo_init 27 [vR 12 0 a0] [] S M =
  Run K tb_Mo_init 34 [vR 12 0 a0] [] (setRef (S ++ [(20, 4, [])]) a0 5 S.length) M := (Run_EE K tb_Mo_init [13, 22, 27, 34, 57, 66, 75, 84, 89, 94, 101, 109, 116, 124, 132, 140, 147, 154] 500 27 _ _ S M).trans rfl
set_option maxRecDepth 100000 in
theorem b_Mo_init_34 (K : Cal) (a0 : Nat) (S : Sp) (M : Mm) : Run K tb_Mo_init 34 [vR 12 0 a0] [] S M =
  Run K tb_Mo_init 57 [vR 12 0 a0] [] (setRef (S ++ [(20, 4, [])]) a0 6 S.length) (up (up (up (up M S.length 0 (-1)) S.length 1 (-1)) S.length 2 (-1)) S.length 3 (-1)) := (Run_EE K tb_Mo_init [13, 22, 27, 34, 57, 66, 75, 84, 89, 94, 101, 109, 116, 124, 132, 140, 147, 154] 500 34 _ _ S M).trans rfl
set_option maxRecDepth 100000 in
theorem b_Mo_init_57 (K : Cal) (a0 : Nat) (S : Sp) (M : Mm) : Run K tb_Mo_init 57 [vR 12 0 a0] [] S M =
  Run K tb_Mo_init 66 [vR 12 0 a0] [] (setRef (S ++ [(21, 240, [])]) a0 7 S.length) M := (Run_EE K tb_Mo_init [13, 22, 27, 34, 57, 66, 75, 84, 89, 94, 101, 109, 116, 124, 132, 140, 147, 154] 500 57 _ _ S M).trans rfl
set_option maxRecDepth 100000 in
theorem b_Mo_init_66 (K : Cal) (a0 : Nat) (S : Sp) (M : Mm) : Run K tb_Mo_init 66 [vR 12 0 a0] [] S M =
  Run K tb_Mo_init 75 [vR 12 0 a0] [] (setRef (S ++ [(22, 900, [])]) a0 8 S.length) M := (Run_EE K tb_Mo_init [13, 22, 27, 34, 57, 66, 75, 84, 89, 94, 101, 109, 116, 124, 132, 140, 147, 154] 500 66 _ _ S M).trans rfl
set_option maxRecDepth 100000 in
theorem b_Mo_init_75 (K : Cal) (a0 : Nat) (S : Sp) (M : Mm) : Run K tb_Mo_init 75 [vR 12 0 a0] [] S M =
  Run K tb_Mo_init 84 [vR 12 0 a0] [] (setRef (S ++ [(22, 900, [])]) a0 9 S.length) M := (Run_EE K tb_Mo_init [13, 22, 27, 34, 57, 66, 75, 84, 89, 94, 101, 109, 116, 124, 132, 140, 147, 154] 500 75 _ _ S M).trans rfl
set_option maxRecDepth 100000 in
theorem b_Mo_init_84 (K : Cal) (a0 : Nat) (S : Sp) (M : Mm) : Run K tb_Mo_init 84 [vR 12 0 a0] [] S M =
  Run K tb_Mo_init 89 [vR 12 0 a0] [] S (up M a0 16 (-1)) := (Run_EE K tb_Mo_init [13, 22, 27, 34, 57, 66, 75, 84, 89, 94, 101, 109, 116, 124, 132, 140, 147, 154] 500 84 _ _ S M).trans rfl
set_option maxRecDepth 100000 in
theorem b_Mo_init_89 (K : Cal) (a0 : Nat) (S : Sp) (M : Mm) : Run K tb_Mo_init 89 [vR 12 0 a0] [] S M =
  Run K tb_Mo_init 94 [vR 12 0 a0] [] S (up M a0 17 (-1)) := (Run_EE K tb_Mo_init [13, 22, 27, 34, 57, 66, 75, 84, 89, 94, 101, 109, 116, 124, 132, 140, 147, 154] 500 89 _ _ S M).trans rfl
set_option maxRecDepth 100000 in
theorem b_Mo_init_94 (K : Cal) (a0 : Nat) (S : Sp) (M : Mm) : Run K tb_Mo_init 94 [vR 12 0 a0] [] S M =
  Run K tb_Mo_init 101 [vR 12 0 a0] [] (setRef (S ++ [(20, 3, [])]) a0 21 S.length) M := (Run_EE K tb_Mo_init [13, 22, 27, 34, 57, 66, 75, 84, 89, 94, 101, 109, 116, 124, 132, 140, 147, 154] 500 94 _ _ S M).trans rfl
set_option maxRecDepth 100000 in
theorem b_Mo_init_101 (K : Cal) (a0 : Nat) (S : Sp) (M : Mm) : Run K tb_Mo_init 101 [vR 12 0 a0] [] S M =
  Run K tb_Mo_init 109 [vR 12 0 a0] [] (setRef (S ++ [(20, 8, [])]) a0 24 S.length) M := (Run_EE K tb_Mo_init [13, 22, 27, 34, 57, 66, 75, 84, 89, 94, 101, 109, 116, 124, 132, 140, 147, 154] 500 101 _ _ S M).trans rfl
set_option maxRecDepth 100000 in
theorem b_Mo_init_109 (K : Cal) (a0 : Nat) (S : Sp) (M : Mm) : Run K tb_Mo_init 109 [vR 12 0 a0] [] S M =
  Run K tb_Mo_init 116 [vR 12 0 a0] [] (setRef (S ++ [(20, 4, [])]) a0 28 S.length) M := (Run_EE K tb_Mo_init [13, 22, 27, 34, 57, 66, 75, 84, 89, 94, 101, 109, 116, 124, 132, 140, 147, 154] 500 109 _ _ S M).trans rfl
set_option maxRecDepth 100000 in
theorem b_Mo_init_116 (K : Cal) (a0 : Nat) (S : Sp) (M : Mm) : Run K tb_Mo_init 116 [vR 12 0 a0] [] S M =
  Run K tb_Mo_init 124 [vR 12 0 a0] [] (setRef (S ++ [(20, 60, [])]) a0 29 S.length) M := (Run_EE K tb_Mo_init [13, 22, 27, 34, 57, 66, 75, 84, 89, 94, 101, 109, 116, 124, 132, 140, 147, 154] 500 116 _ _ S M).trans rfl
set_option maxRecDepth 100000 in
theorem b_Mo_init_124 (K : Cal) (a0 : Nat) (S : Sp) (M : Mm) : Run K tb_Mo_init 124 [vR 12 0 a0] [] S M =
  Run K tb_Mo_init 132 [vR 12 0 a0] [] (setRef (S ++ [(20, 6, [])]) a0 32 S.length) M := (Run_EE K tb_Mo_init [13, 22, 27, 34, 57, 66, 75, 84, 89, 94, 101, 109, 116, 124, 132, 140, 147, 154] 500 124 _ _ S M).trans rfl
set_option maxRecDepth 100000 in
theorem b_Mo_init_132 (K : Cal) (a0 : Nat) (S : Sp) (M : Mm) : Run K tb_Mo_init 132 [vR 12 0 a0] [] S M =
  Run K tb_Mo_init 140 [vR 12 0 a0] [] (setRef (S ++ [(20, 80, [])]) a0 37 S.length) M := (Run_EE K tb_Mo_init [13, 22, 27, 34, 57, 66, 75, 84, 89, 94, 101, 109, 116, 124, 132, 140, 147, 154] 500 132 _ _ S M).trans rfl
set_option maxRecDepth 100000 in
theorem b_Mo_init_140 (K : Cal) (a0 : Nat) (S : Sp) (M : Mm) : Run K tb_Mo_init 140 [vR 12 0 a0] [] S M =
  Run K tb_Mo_init 147 [vR 12 0 a0] [] (setRef (S ++ [(20, 5, [])]) a0 38 S.length) M := (Run_EE K tb_Mo_init [13, 22, 27, 34, 57, 66, 75, 84, 89, 94, 101, 109, 116, 124, 132, 140, 147, 154] 500 140 _ _ S M).trans rfl
set_option maxRecDepth 100000 in
theorem b_Mo_init_147 (K : Cal) (a0 : Nat) (S : Sp) (M : Mm) : Run K tb_Mo_init 147 [vR 12 0 a0] [] S M =
  Run K tb_Mo_init 154 [vR 12 0 a0] [] (setRef (S ++ [(20, 5, [])]) a0 39 S.length) M := (Run_EE K tb_Mo_init [13, 22, 27, 34, 57, 66, 75, 84, 89, 94, 101, 109, 116, 124, 132, 140, 147, 154] 500 147 _ _ S M).trans rfl
set_option maxRecDepth 100000 in
theorem b_Mo_init_154 (K : Cal) (a0 : Nat) (S : Sp) (M : Mm) : Run K tb_Mo_init 154 [vR 12 0 a0] [] S M =
  bndV (K m_Mo_plain [vR 12 0 a0, vI 0] S M) fun S1 M1 =>
  some (none, S1, M1) := (Run_EE K tb_Mo_init [13, 22, 27, 34, 57, 66, 75, 84, 89, 94, 101, 109, 116, 124, 132, 140, 147, 154] 500 154 _ _ S M).trans rfl
set_option maxRecDepth 100000 in
theorem b_Mo_plain_0 (K : Cal) (a0 : Nat) (x1 : Int) (S : Sp) (M : Mm) : Run K tb_Mo_plain 0 [vR 12 0 a0, vI x1, vU] [] S M =
  Run K tb_Mo_plain 2 [vR 12 0 a0, vI x1, vI 0] [] S M := (Run_EE K tb_Mo_plain [2] 500 0 _ _ S M).trans rfl
set_option maxRecDepth 100000 in
theorem b_Mo_plain_2 (K : Cal) (a0 : Nat) (x1 : Int) (x2 : Int) (S : Sp) (M : Mm) : Run K tb_Mo_plain 2 [vR 12 0 a0, vI x1, vI x2] [] S M =
  if x2 < 572 then
    bR (refOf S a0 0) fun b1 =>
    if 0 ≤ w32 (x1 + x2) ∧ w32 (x1 + x2) < 4004 then
        Run K tb_Mo_plain 2 [vR 12 0 a0, vI x1, vI (w32 (x2 + 1))] [] S (up M b1 (w32 (x1 + x2)).toNat 0)
      else none
  else
    bR (refOf S a0 0) fun b2 =>
    if 0 ≤ w32 (x1 + 6) ∧ w32 (x1 + 6) < 4004 then
        some (none, S, up M b2 (w32 (x1 + 6)).toNat (-1))
      else none := (Run_EE K tb_Mo_plain [2] 500 2 _ _ S M).trans rfl
set_option maxRecDepth 100000 in
theorem b_Mo_status_0 (K : Cal) (a0 : Nat) (S : Sp) (M : Mm) : Run K tb_Mo_status 0 [vR 12 0 a0] [] S M =
  some (some (vI (M a0 2)), S, M) := (Run_EE K tb_Mo_status [] 500 0 _ _ S M).trans rfl
set_option maxRecDepth 100000 in
theorem b_Mo_top_0 (K : Cal) (a0 : Nat) (S : Sp) (M : Mm) : Run K tb_Mo_top 0 [vR 12 0 a0] [] S M =
  some (some (vL (M a0 3)), S, M) := (Run_EE K tb_Mo_top [] 500 0 _ _ S M).trans rfl
set_option maxRecDepth 100000 in
theorem b_Mo_bottom_0 (K : Cal) (a0 : Nat) (S : Sp) (M : Mm) : Run K tb_Mo_bottom 0 [vR 12 0 a0] [] S M =
  some (some (vL (M a0 4)), S, M) := (Run_EE K tb_Mo_bottom [] 500 0 _ _ S M).trans rfl
set_option maxRecDepth 100000 in
theorem b_Mo_tray_0 (K : Cal) (a0 : Nat) (x1 : Int) (x2 : Int) (x3 : Int) (S : Sp) (M : Mm) : Run K tb_Mo_tray 0 [vR 12 0 a0, vI x1, vI x2, vI x3, vU] [] S M =
  bndI (K m_Mo_isTray [vI x1] S M) fun r1 S1 M1 =>
  if r1 = 0 then
    bndI (K m_Mo_is [vR 12 0 a0, vI 1] S1 M1) fun r2 S2 M2 =>
    some (some (vI (r2 % 2)), S2, M2)
  else
    if x2 < 0 then
      bndI (K m_Mo_is [vR 12 0 a0, vI 1] S1 M1) fun r3 S3 M3 =>
      some (some (vI (r3 % 2)), S3, M3)
    else
      if 3 < x2 then
        bndI (K m_Mo_is [vR 12 0 a0, vI 1] S1 M1) fun r4 S4 M4 =>
        some (some (vI (r4 % 2)), S4, M4)
      else
        if x3 < 0 then
          bndI (K m_Mo_is [vR 12 0 a0, vI 1] S1 M1) fun r5 S5 M5 =>
          some (some (vI (r5 % 2)), S5, M5)
        else
          if 60 < x3 then
            bndI (K m_Mo_is [vR 12 0 a0, vI 1] S1 M1) fun r6 S6 M6 =>
            some (some (vI (r6 % 2)), S6, M6)
          else
            bR (refOf S1 a0 5) fun b7 =>
            if 0 ≤ x1 ∧ x1 < 4 then
                bR (refOf S1 a0 6) fun b8 =>
                if 0 ≤ x1 ∧ x1 < 4 then
                    Run K tb_Mo_tray 49 [vR 12 0 a0, vI x1, vI x2, vI x3, vI 0] [] S1 (up (up M1 b7 x1.toNat x2) b8 x1.toNat x3)
                  else none
              else none := (Run_EE K tb_Mo_tray [49] 500 0 _ _ S M).trans rfl
set_option maxRecDepth 100000 in
theorem b_Mo_tray_49 (K : Cal) (a0 : Nat) (x1 : Int) (x2 : Int) (x3 : Int) (x4 : Int) (S : Sp) (M : Mm) : Run K tb_Mo_tray 49 [vR 12 0 a0, vI x1, vI x2, vI x3, vI x4] [] S M =
  if x4 < x3 then
    bR (refOf S a0 7) fun b1 =>
    if 0 ≤ w32 ((w32 (60 * x1)) + x4) ∧ w32 ((w32 (60 * x1)) + x4) < 240 then
        Run K tb_Mo_tray 49 [vR 12 0 a0, vI x1, vI x2, vI x3, vI (w32 (x4 + 1))] [] S (up M b1 (w32 ((w32 (60 * x1)) + x4)).toNat 0)
      else none
  else
    bndI (K m_Mo_is [vR 12 0 a0, vI 0] S M) fun r2 S2 M2 =>
    some (some (vI (r2 % 2)), S2, M2) := (Run_EE K tb_Mo_tray [49] 500 49 _ _ S M).trans rfl
set_option maxRecDepth 100000 in
theorem b_Mo_isTray_0 (K : Cal) (x0 : Int) (S : Sp) (M : Mm) : Run K tb_Mo_isTray 0 [vI x0] [] S M =
  if x0 < 0 then
    some (some (vI 0), S, M)
  else
    if x0 < 4 then
      some (some (vI 1), S, M)
    else
      some (some (vI 0), S, M) := (Run_EE K tb_Mo_isTray [] 500 0 _ _ S M).trans rfl
set_option maxRecDepth 100000 in
theorem b_Mo_is_0 (K : Cal) (a0 : Nat) (x1 : Int) (S : Sp) (M : Mm) : Run K tb_Mo_is 0 [vR 12 0 a0, vI x1] [] S M =
  if x1 = 0 then
    some (some (vI 1), S, up M a0 2 x1)
  else
    some (some (vI 0), S, up M a0 2 x1) := (Run_EE K tb_Mo_is [] 500 0 _ _ S M).trans rfl
set_option maxRecDepth 100000 in
theorem b_Mo_write_0 (K : Cal) (a0 : Nat) (x1 : Int) (x2 : Int) (x3 : Int) (S : Sp) (M : Mm) : Run K tb_Mo_write 0 [vR 12 0 a0, vI x1, vI x2, vL x3, vU, vU] [] S M =
  bndI (K m_Mo_wrongPlace [vR 12 0 a0, vI x1, vI x2] S M) fun r1 S1 M1 =>
  if r1 = 0 then
    bR (refOf S1 a0 7) fun b2 =>
    bR (refOf S1 a0 5) fun b3 =>
      if 0 ≤ x1 ∧ x1 < 4 then
          bndL (K m_Mo_cut [vL x3, vI (M1 b3 x1.toNat)] S1 M1) fun r4 S4 M4 =>
          if 0 ≤ w32 ((w32 (60 * x1)) + x2) ∧ w32 ((w32 (60 * x1)) + x2) < 240 then
            bndI (K m_Mo_is [vR 12 0 a0, vI r1] S4 (up M4 b2 (w32 ((w32 (60 * x1)) + x2)).toNat r4)) fun r5 S5 M5 =>
            some (some (vI (r5 % 2)), S5, M5)
          else none
        else none
  else
    bndI (K m_Mo_is [vR 12 0 a0, vI r1] S1 M1) fun r6 S6 M6 =>
    some (some (vI (r6 % 2)), S6, M6) := (Run_EE K tb_Mo_write [] 500 0 _ _ S M).trans rfl
set_option maxRecDepth 100000 in
theorem b_Mo_wrongPlace_0 (K : Cal) (a0 : Nat) (x1 : Int) (x2 : Int) (S : Sp) (M : Mm) : Run K tb_Mo_wrongPlace 0 [vR 12 0 a0, vI x1, vI x2] [] S M =
  bndI (K m_Mo_isTray [vI x1] S M) fun r1 S1 M1 =>
  if r1 = 0 then
    some (some (vI 1), S1, M1)
  else
    bR (refOf S1 a0 6) fun b2 =>
    if 0 ≤ x1 ∧ x1 < 4 then
        if M1 b2 x1.toNat = (-1) then
          some (some (vI 2), S1, M1)
        else
          if x2 < 0 then
            some (some (vI 3), S1, M1)
          else
            bR (refOf S1 a0 6) fun b3 =>
            if 0 ≤ x1 ∧ x1 < 4 then
                if x2 < M1 b3 x1.toNat then
                  some (some (vI 0), S1, M1)
                else
                  some (some (vI 3), S1, M1)
              else none
      else none := (Run_EE K tb_Mo_wrongPlace [] 500 0 _ _ S M).trans rfl
set_option maxRecDepth 100000 in
theorem b_Mo_cut_0 (K : Cal) (x0 : Int) (x2 : Int) (S : Sp) (M : Mm) : Run K tb_Mo_cut 0 [vL x0, vU, vI x2] [] S M =
  if x2 = 0 then
    some (some (vL (w8 (w32 x0))), S, M)
  else
    if x2 = 1 then
      some (some (vL (w16 (w32 x0))), S, M)
    else
      if x2 = 2 then
        some (some (vL (w32 x0)), S, M)
      else
        some (some (vL x0), S, M) := (Run_EE K tb_Mo_cut [] 500 0 _ _ S M).trans rfl
set_option maxRecDepth 100000 in
theorem b_Mo_read_0 (K : Cal) (a0 : Nat) (x1 : Int) (x2 : Int) (S : Sp) (M : Mm) : Run K tb_Mo_read 0 [vR 12 0 a0, vI x1, vI x2] [] S M =
  bndI (K m_Mo_wrongPlace [vR 12 0 a0, vI x1, vI x2] S M) fun r1 S1 M1 =>
  if 0 < (up M1 a0 2 r1) a0 2 then
    some (some (vL (-1)), S1, up M1 a0 2 r1)
  else
    bR (refOf S1 a0 7) fun b2 =>
    if 0 ≤ w32 ((w32 (60 * x1)) + x2) ∧ w32 ((w32 (60 * x1)) + x2) < 240 then
        some (some (vL ((up M1 a0 2 r1) b2 (w32 ((w32 (60 * x1)) + x2)).toNat)), S1, up M1 a0 2 r1)
      else none := (Run_EE K tb_Mo_read [] 500 0 _ _ S M).trans rfl
set_option maxRecDepth 100000 in
theorem b_Mo_pour_0 (K : Cal) (a0 : Nat) (x1 : Int) (x2 : Int) (x3 : Int) (x4 : Int) (x5 : Int) (S : Sp) (M : Mm) : Run K tb_Mo_pour 0 [vR 12 0 a0, vI x1, vI x2, vI x3, vI x4, vI x5, vU, vU] [] S M =
  bndI (K m_Mo_isTray [vI x1] S M) fun r1 S1 M1 =>
  if r1 = 0 then
    bndI (K m_Mo_is [vR 12 0 a0, vI 1] S1 M1) fun r2 S2 M2 =>
    some (some (vI (r2 % 2)), S2, M2)
  else
    bndI (K m_Mo_isTray [vI x3] S1 M1) fun r3 S3 M3 =>
    if r3 = 0 then
      bndI (K m_Mo_is [vR 12 0 a0, vI 1] S3 M3) fun r4 S4 M4 =>
      some (some (vI (r4 % 2)), S4, M4)
    else
      if x2 < 0 then
        bndI (K m_Mo_is [vR 12 0 a0, vI 1] S3 M3) fun r5 S5 M5 =>
        some (some (vI (r5 % 2)), S5, M5)
      else
        if x4 < 0 then
          bndI (K m_Mo_is [vR 12 0 a0, vI 1] S3 M3) fun r6 S6 M6 =>
          some (some (vI (r6 % 2)), S6, M6)
        else
          if x5 < 0 then
            bndI (K m_Mo_is [vR 12 0 a0, vI 1] S3 M3) fun r7 S7 M7 =>
            some (some (vI (r7 % 2)), S7, M7)
          else
            bR (refOf S3 a0 6) fun b8 =>
            if 0 ≤ x1 ∧ x1 < 4 then
                if M3 b8 x1.toNat = (-1) then
                  bndI (K m_Mo_is [vR 12 0 a0, vI 2] S3 M3) fun r9 S9 M9 =>
                  some (some (vI (r9 % 2)), S9, M9)
                else
                  bR (refOf S3 a0 6) fun b10 =>
                  if 0 ≤ x3 ∧ x3 < 4 then
                      if M3 b10 x3.toNat = (-1) then
                        bndI (K m_Mo_is [vR 12 0 a0, vI 2] S3 M3) fun r11 S11 M11 =>
                        some (some (vI (r11 % 2)), S11, M11)
                      else
                        bR (refOf S3 a0 5) fun b12 =>
                        if 0 ≤ x1 ∧ x1 < 4 then
                            bR (refOf S3 a0 5) fun b13 =>
                            if 0 ≤ x3 ∧ x3 < 4 then
                                if M3 b12 x1.toNat = M3 b13 x3.toNat then
                                  bR (refOf S3 a0 6) fun b14 =>
                                  if 0 ≤ x1 ∧ x1 < 4 then
                                      if w32 ((M3 b14 x1.toNat) - x2) < x5 then
                                        bndI (K m_Mo_is [vR 12 0 a0, vI 3] S3 M3) fun r15 S15 M15 =>
                                        some (some (vI (r15 % 2)), S15, M15)
                                      else
                                        bR (refOf S3 a0 6) fun b16 =>
                                        if 0 ≤ x3 ∧ x3 < 4 then
                                            if w32 ((M3 b16 x3.toNat) - x4) < x5 then
                                              bndI (K m_Mo_is [vR 12 0 a0, vI 3] S3 M3) fun r17 S17 M17 =>
                                              some (some (vI (r17 % 2)), S17, M17)
                                            else
                                              Run K tb_Mo_pour 118 [vR 12 0 a0, vI x1, vI x2, vI x3, vI x4, vI x5, vI 0, vU] [] S3 M3
                                          else none
                                    else none
                                else
                                  bndI (K m_Mo_is [vR 12 0 a0, vI 8] S3 M3) fun r18 S18 M18 =>
                                  some (some (vI (r18 % 2)), S18, M18)
                              else none
                          else none
                    else none
              else none := (Run_EE K tb_Mo_pour [118] 500 0 _ _ S M).trans rfl
set_option maxRecDepth 100000 in
theorem b_Mo_pour_118 (K : Cal) (a0 : Nat) (x1 : Int) (x2 : Int) (x3 : Int) (x4 : Int) (x5 : Int) (x6 : Int) (d7 : AV) (S : Sp) (M : Mm) : Run K tb_Mo_pour 118 [vR 12 0 a0, vI x1, vI x2, vI x3, vI x4, vI x5, vI x6, d7] [] S M =
  if x6 < x5 then
    if x2 < x4 then
      bR (refOf S a0 7) fun b1 =>
      bR (refOf S a0 7) fun b2 =>
        if 0 ≤ w32 ((w32 ((w32 (60 * x1)) + x2)) + (w32 ((w32 (x5 - 1)) - x6))) ∧ w32 ((w32 ((w32 (60 * x1)) + x2)) + (w32 ((w32 (x5 - 1)) - x6))) < 240 then
            if 0 ≤ w32 ((w32 ((w32 (60 * x3)) + x4)) + (w32 ((w32 (x5 - 1)) - x6))) ∧ w32 ((w32 ((w32 (60 * x3)) + x4)) + (w32 ((w32 (x5 - 1)) - x6))) < 240 then
              Run K tb_Mo_pour 118 [vR 12 0 a0, vI x1, vI x2, vI x3, vI x4, vI x5, vI (w32 (x6 + 1)), vI (w32 ((w32 (x5 - 1)) - x6))] [] S (up M b1 (w32 ((w32 ((w32 (60 * x3)) + x4)) + (w32 ((w32 (x5 - 1)) - x6)))).toNat (M b2 (w32 ((w32 ((w32 (60 * x1)) + x2)) + (w32 ((w32 (x5 - 1)) - x6)))).toNat))
            else none
          else none
    else
      bR (refOf S a0 7) fun b3 =>
      bR (refOf S a0 7) fun b4 =>
        if 0 ≤ w32 ((w32 ((w32 (60 * x1)) + x2)) + x6) ∧ w32 ((w32 ((w32 (60 * x1)) + x2)) + x6) < 240 then
            if 0 ≤ w32 ((w32 ((w32 (60 * x3)) + x4)) + x6) ∧ w32 ((w32 ((w32 (60 * x3)) + x4)) + x6) < 240 then
              Run K tb_Mo_pour 118 [vR 12 0 a0, vI x1, vI x2, vI x3, vI x4, vI x5, vI (w32 (x6 + 1)), vI x6] [] S (up M b3 (w32 ((w32 ((w32 (60 * x3)) + x4)) + x6)).toNat (M b4 (w32 ((w32 ((w32 (60 * x1)) + x2)) + x6)).toNat))
            else none
          else none
  else
    bndI (K m_Mo_is [vR 12 0 a0, vI 0] S M) fun r5 S5 M5 =>
    some (some (vI (r5 % 2)), S5, M5) := (Run_EE K tb_Mo_pour [118] 500 118 _ _ S M).trans rfl
set_option maxRecDepth 100000 in
theorem b_Mo_feed_0 (K : Cal) (a0 : Nat) (x1 : Int) (x2 : Int) (x3 : Int) (x4 : Int) (x5 : Int) (S : Sp) (M : Mm) : Run K tb_Mo_feed 0 [vR 12 0 a0, vI x1, vI x2, vI x3, vI x4, vI x5] [] S M =
  if 900 < w32 ((M a0 10) + 20) then
    some (some (vI (-1)), S, M)
  else
    bndV (K m_Mo_four [vR 12 0 a0, vI x1] S M) fun S1 M1 =>
    bndV (K m_Mo_four [vR 12 0 a0, vI x2] S1 M1) fun S2 M2 =>
    bndV (K m_Mo_four [vR 12 0 a0, vI x3] S2 M2) fun S3 M3 =>
    bndV (K m_Mo_four [vR 12 0 a0, vI x4] S3 M3) fun S4 M4 =>
    bndV (K m_Mo_four [vR 12 0 a0, vI x5] S4 M4) fun S5 M5 =>
    some (some (vI (M5 a0 10)), S5, M5) := (Run_EE K tb_Mo_feed [] 500 0 _ _ S M).trans rfl
set_option maxRecDepth 100000 in
theorem b_Mo_four_0 (K : Cal) (a0 : Nat) (x1 : Int) (S : Sp) (M : Mm) : Run K tb_Mo_four 0 [vR 12 0 a0, vI x1, vU] [] S M =
  Run K tb_Mo_four 3 [vR 12 0 a0, vI x1, vI 24] [] S M := (Run_EE K tb_Mo_four [3] 500 0 _ _ S M).trans rfl
set_option maxRecDepth 100000 in
theorem b_Mo_four_3 (K : Cal) (a0 : Nat) (x1 : Int) (x2 : Int) (S : Sp) (M : Mm) : Run K tb_Mo_four 3 [vR 12 0 a0, vI x1, vI x2] [] S M =
  if x2 < 0 then
    some (none, S, M)
  else
    bR (refOf S a0 8) fun b1 =>
    if 0 ≤ M a0 10 ∧ M a0 10 < 900 then
        Run K tb_Mo_four 3 [vR 12 0 a0, vI x1, vI (w32 (x2 + (-8)))] [] S (up (up M b1 (M a0 10).toNat (w8 (w8 (shr32 x1 x2)))) a0 10 (w32 (((up M b1 (M a0 10).toNat (w8 (w8 (shr32 x1 x2)))) a0 10) + 1)))
      else none := (Run_EE K tb_Mo_four [3] 500 3 _ _ S M).trans rfl
set_option maxRecDepth 100000 in
theorem b_Mo_fault_0 (K : Cal) (a0 : Nat) (x1 : Int) (S : Sp) (M : Mm) : Run K tb_Mo_fault 0 [vR 12 0 a0, vI x1] [] S M =
  if x1 = 0 then
    some (some (vI (M a0 16)), S, M)
  else
    if x1 = 1 then
      some (some (vI (M a0 17)), S, M)
    else
      some (some (vI (-1)), S, M) := (Run_EE K tb_Mo_fault [] 500 0 _ _ S M).trans rfl
set_option maxRecDepth 100000 in
theorem b_Mo_world_0 (K : Cal) (a0 : Nat) (x1 : Int) (S : Sp) (M : Mm) : Run K tb_Mo_world 0 [vR 12 0 a0, vI x1, vU, vU] [] S M =
  bndI (K m_Mo_begins [vR 12 0 a0, vI x1, vI 900] S M) fun r1 S1 M1 =>
  if r1 = 0 then
    bndI (K m_Mo_refuse [vR 12 0 a0, vI 1] S1 M1) fun r2 S2 M2 =>
    some (some (vI r2), S2, M2)
  else
    bndV (K m_Mo_plain [vR 12 0 a0, vI 2288] S1 M1) fun S3 M3 =>
    Run K tb_Mo_world 31 [vR 12 0 a0, vI x1, vI 1, vU] [] S3 (up M3 a0 20 0) := (Run_EE K tb_Mo_world [31, 59, 90] 500 0 _ _ S M).trans rfl
set_option maxRecDepth 100000 in
theorem b_Mo_world_31 (K : Cal) (a0 : Nat) (x1 : Int) (x2 : Int) (d3 : AV) (S : Sp) (M : Mm) : Run K tb_Mo_world 31 [vR 12 0 a0, vI x1, vI x2, d3] [] S M =
  if x2 = 0 then
    if M a0 18 = 0 then
      Run K tb_Mo_world 59 [vR 12 0 a0, vI x1, vI x2, vI 0] [] S M
    else
      bR (refOf S a0 0) fun b1 =>
      bndI (K m_Mo_taken [vR 12 0 a0, vI (M b1 3)] S M) fun r2 S2 M2 =>
        some (some (vI r2), S2, M2)
  else
    if M a0 12 = 0 then
      if M a0 18 = 0 then
        Run K tb_Mo_world 59 [vR 12 0 a0, vI x1, vI x2, vI 0] [] S M
      else
        bR (refOf S a0 0) fun b3 =>
        bndI (K m_Mo_taken [vR 12 0 a0, vI (M b3 3)] S M) fun r4 S4 M4 =>
          some (some (vI r4), S4, M4)
    else
      bndI (K m_Mo_worldPart [vR 12 0 a0] S M) fun r5 S5 M5 =>
      Run K tb_Mo_world 31 [vR 12 0 a0, vI x1, vI r5, d3] [] S5 M5 := (Run_EE K tb_Mo_world [31, 59, 90] 500 31 _ _ S M).trans rfl
set_option maxRecDepth 100000 in
theorem b_Mo_world_59 (K : Cal) (a0 : Nat) (x1 : Int) (x2 : Int) (x3 : Int) (S : Sp) (M : Mm) : Run K tb_Mo_world 59 [vR 12 0 a0, vI x1, vI x2, vI x3] [] S M =
  if x3 < 572 then
    bR (refOf S a0 0) fun b1 =>
    bR (refOf S a0 0) fun b2 =>
      if 0 ≤ w32 (2288 + x3) ∧ w32 (2288 + x3) < 4004 then
          if 0 ≤ x3 ∧ x3 < 4004 then
            Run K tb_Mo_world 59 [vR 12 0 a0, vI x1, vI x2, vI (w32 (x3 + 1))] [] S (up M b1 x3.toNat (M b2 (w32 (2288 + x3)).toNat))
          else none
        else none
  else
    Run K tb_Mo_world 90 [vR 12 0 a0, vI x1, vI x2, vI 0] [] S M := (Run_EE K tb_Mo_world [31, 59, 90] 500 59 _ _ S M).trans rfl
set_option maxRecDepth 100000 in
theorem b_Mo_world_90 (K : Cal) (a0 : Nat) (x1 : Int) (x2 : Int) (x3 : Int) (S : Sp) (M : Mm) : Run K tb_Mo_world 90 [vR 12 0 a0, vI x1, vI x2, vI x3] [] S M =
  if x3 < 24 then
    bR (refOf S a0 1) fun b1 =>
    bR (refOf S a0 1) fun b2 =>
      if 0 ≤ w32 (96 + x3) ∧ w32 (96 + x3) < 144 then
          if 0 ≤ x3 ∧ x3 < 144 then
            Run K tb_Mo_world 90 [vR 12 0 a0, vI x1, vI x2, vI (w32 (x3 + 1))] [] S (up M b1 x3.toNat (M b2 (w32 (96 + x3)).toNat))
          else none
        else none
  else
    bR (refOf S a0 0) fun b3 =>
    bndI (K m_Mo_taken [vR 12 0 a0, vI (M b3 3)] S M) fun r4 S4 M4 =>
      some (some (vI r4), S4, M4) := (Run_EE K tb_Mo_world [31, 59, 90] 500 90 _ _ S M).trans rfl
set_option maxRecDepth 100000 in
theorem b_Mo_begins_0 (K : Cal) (a0 : Nat) (x1 : Int) (x2 : Int) (S : Sp) (M : Mm) : Run K tb_Mo_begins 0 [vR 12 0 a0, vI x1, vI x2, vU] [] S M =
  if x1 < 0 then
    some (some (vI 0), S, M)
  else
    if M a0 10 < x1 then
      some (some (vI 0), S, M)
    else
      if x2 < x1 then
        some (some (vI 0), S, M)
      else
        Run K tb_Mo_begins 26 [vR 12 0 a0, vI x1, vI x2, vI 0] [] S (up M a0 11 x1) := (Run_EE K tb_Mo_begins [26] 500 0 _ _ S M).trans rfl
set_option maxRecDepth 100000 in
theorem b_Mo_begins_26 (K : Cal) (a0 : Nat) (x1 : Int) (x2 : Int) (x3 : Int) (S : Sp) (M : Mm) : Run K tb_Mo_begins 26 [vR 12 0 a0, vI x1, vI x2, vI x3] [] S M =
  if x3 < x1 then
    bR (refOf S a0 9) fun b1 =>
    bR (refOf S a0 8) fun b2 =>
      if 0 ≤ x3 ∧ x3 < 900 then
          if 0 ≤ x3 ∧ x3 < 900 then
            Run K tb_Mo_begins 26 [vR 12 0 a0, vI x1, vI x2, vI (w32 (x3 + 1))] [] S (up M b1 x3.toNat (w8 (M b2 x3.toNat)))
          else none
        else none
  else
    bndV (K m_Mo_ahead [vR 12 0 a0] S (up (up (up (up (up M a0 10 0) a0 18 0) a0 17 (-1)) a0 14 0) a0 19 0)) fun S3 M3 =>
    some (some (vI 1), S3, M3) := (Run_EE K tb_Mo_begins [26] 500 26 _ _ S M).trans rfl
set_option maxRecDepth 100000 in
theorem b_Mo_ahead_0 (K : Cal) (a0 : Nat) (d1 : AV) (S : Sp) (M : Mm) : Run K tb_Mo_ahead 0 [vR 12 0 a0, d1] [] S M =
  bndI (K m_Mo_byteAt [vR 12 0 a0, vI (M a0 14)] S M) fun r1 S1 M1 =>
  if r1 = 32 then
    Run K tb_Mo_ahead 0 [vR 12 0 a0, d1] [] S1 (up M1 a0 14 (w32 ((M1 a0 14) + 1)))
  else
    bndI (K m_Mo_byteAt [vR 12 0 a0, vI (M1 a0 14)] S1 M1) fun r2 S2 M2 =>
    if r2 = 10 then
      Run K tb_Mo_ahead 0 [vR 12 0 a0, d1] [] S2 (up M2 a0 14 (w32 ((M2 a0 14) + 1)))
    else
      bndI (K m_Mo_byteAt [vR 12 0 a0, vI ((up M2 a0 13 (M2 a0 14)) a0 14)] S2 (up M2 a0 13 (M2 a0 14))) fun r3 S3 M3 =>
      if r3 = (-1) then
        some (none, S3, up (up M3 a0 15 r3) a0 12 0)
      else
        bndI (K m_Mo_isSmall [vI r3] S3 (up M3 a0 15 r3)) fun r4 S4 M4 =>
        if r4 = 0 then
          bndI (K m_Mo_isDigit [vI r3] S4 M4) fun r5 S5 M5 =>
          if r5 = 0 then
            if r3 = 59 then
              some (none, S5, up (up M5 a0 14 (w32 ((M5 a0 14) + 1))) a0 12 4)
            else
              if r3 = 60 then
                some (none, S5, up (up M5 a0 14 (w32 ((M5 a0 14) + 1))) a0 12 4)
              else
                if r3 = 62 then
                  some (none, S5, up (up M5 a0 14 (w32 ((M5 a0 14) + 1))) a0 12 4)
                else
                  if r3 = 61 then
                    some (none, S5, up (up M5 a0 14 (w32 ((M5 a0 14) + 1))) a0 12 4)
                  else
                    some (none, S5, up (up M5 a0 14 (w32 ((M5 a0 14) + 1))) a0 12 1)
          else
            Run K tb_Mo_ahead 128 [vR 12 0 a0, vI r3] [] S5 (up M5 a0 15 0)
        else
          Run K tb_Mo_ahead 81 [vR 12 0 a0, vI r3] [] S4 M4 := (Run_EE K tb_Mo_ahead [0, 81, 128] 500 0 _ _ S M).trans rfl
set_option maxRecDepth 100000 in
theorem b_Mo_ahead_81 (K : Cal) (a0 : Nat) (x1 : Int) (S : Sp) (M : Mm) : Run K tb_Mo_ahead 81 [vR 12 0 a0, vI x1] [] S M =
  bndI (K m_Mo_byteAt [vR 12 0 a0, vI (M a0 14)] S M) fun r1 S1 M1 =>
  bndI (K m_Mo_isSmall [vI r1] S1 M1) fun r2 S2 M2 =>
  if r2 = 0 then
    some (none, S2, up M2 a0 12 2)
  else
    Run K tb_Mo_ahead 81 [vR 12 0 a0, vI x1] [] S2 (up M2 a0 14 (w32 ((M2 a0 14) + 1))) := (Run_EE K tb_Mo_ahead [0, 81, 128] 500 81 _ _ S M).trans rfl
set_option maxRecDepth 100000 in
theorem b_Mo_ahead_128 (K : Cal) (a0 : Nat) (x1 : Int) (S : Sp) (M : Mm) : Run K tb_Mo_ahead 128 [vR 12 0 a0, vI x1] [] S M =
  bndI (K m_Mo_byteAt [vR 12 0 a0, vI (M a0 14)] S M) fun r1 S1 M1 =>
  bndI (K m_Mo_isDigit [vI r1] S1 M1) fun r2 S2 M2 =>
  if r2 = 0 then
    if 4 < w32 ((M2 a0 14) - (M2 a0 13)) then
      some (none, S2, up M2 a0 12 1)
    else
      some (none, S2, up M2 a0 12 3)
  else
    bndI (K m_Mo_byteAt [vR 12 0 a0, vI (M2 a0 14)] S2 M2) fun r3 S3 M3 =>
    Run K tb_Mo_ahead 128 [vR 12 0 a0, vI x1] [] S3 (up (up M3 a0 15 (min 100000 (w32 ((w32 ((w32 (10 * (M2 a0 15))) + r3)) - 48)))) a0 14 (w32 (((up M3 a0 15 (min 100000 (w32 ((w32 ((w32 (10 * (M2 a0 15))) + r3)) - 48)))) a0 14) + 1))) := (Run_EE K tb_Mo_ahead [0, 81, 128] 500 128 _ _ S M).trans rfl
set_option maxRecDepth 100000 in
theorem b_Mo_byteAt_0 (K : Cal) (a0 : Nat) (x1 : Int) (S : Sp) (M : Mm) : Run K tb_Mo_byteAt 0 [vR 12 0 a0, vI x1] [] S M =
  if x1 < M a0 11 then
    bR (refOf S a0 9) fun b1 =>
    if 0 ≤ x1 ∧ x1 < 900 then
        some (some (vI (and32 (M b1 x1.toNat) 255)), S, M)
      else none
  else
    some (some (vI (-1)), S, M) := (Run_EE K tb_Mo_byteAt [] 500 0 _ _ S M).trans rfl
set_option maxRecDepth 100000 in
theorem b_Mo_isSmall_0 (K : Cal) (x0 : Int) (S : Sp) (M : Mm) : Run K tb_Mo_isSmall 0 [vI x0] [] S M =
  if x0 < 97 then
    some (some (vI 0), S, M)
  else
    if 122 < x0 then
      some (some (vI 0), S, M)
    else
      some (some (vI 1), S, M) := (Run_EE K tb_Mo_isSmall [] 500 0 _ _ S M).trans rfl
set_option maxRecDepth 100000 in
theorem b_Mo_isDigit_0 (K : Cal) (x0 : Int) (S : Sp) (M : Mm) : Run K tb_Mo_isDigit 0 [vI x0] [] S M =
  if x0 < 48 then
    some (some (vI 0), S, M)
  else
    if 57 < x0 then
      some (some (vI 0), S, M)
    else
      some (some (vI 1), S, M) := (Run_EE K tb_Mo_isDigit [] 500 0 _ _ S M).trans rfl
set_option maxRecDepth 100000 in
theorem b_Mo_refuse_0 (K : Cal) (a0 : Nat) (x1 : Int) (S : Sp) (M : Mm) : Run K tb_Mo_refuse 0 [vR 12 0 a0, vI x1] [] S M =
  some (some (vI (-1)), S, up M a0 2 x1) := (Run_EE K tb_Mo_refuse [] 500 0 _ _ S M).trans rfl
set_option maxRecDepth 100000 in
theorem b_Mo_worldPart_0 (K : Cal) (a0 : Nat) (S : Sp) (M : Mm) : Run K tb_Mo_worldPart 0 [vR 12 0 a0, vU] [] S M =
  bndI (K m_Mo_inWords [vR 12 0 a0, vR 13 1 2] S M) fun r1 S1 M1 =>
  if r1 = 0 then
    bndI (K m_Mo_aNation [vR 12 0 a0] S1 M1) fun r2 S2 M2 =>
    Run K tb_Mo_worldPart 163 [vR 12 0 a0, vI r2] [] S2 M2
  else if r1 = 1 then
    bndI (K m_Mo_aCouple [vR 12 0 a0, vI 1] S1 M1) fun r3 S3 M3 =>
    Run K tb_Mo_worldPart 163 [vR 12 0 a0, vI r3] [] S3 M3
  else if r1 = 2 then
    bndI (K m_Mo_aGood [vR 12 0 a0] S1 M1) fun r4 S4 M4 =>
    Run K tb_Mo_worldPart 163 [vR 12 0 a0, vI r4] [] S4 M4
  else if r1 = 3 then
    bndI (K m_Mo_aPort [vR 12 0 a0] S1 M1) fun r5 S5 M5 =>
    Run K tb_Mo_worldPart 163 [vR 12 0 a0, vI r5] [] S5 M5
  else if r1 = 4 then
    bndI (K m_Mo_aPrice [vR 12 0 a0] S1 M1) fun r6 S6 M6 =>
    Run K tb_Mo_worldPart 163 [vR 12 0 a0, vI r6] [] S6 M6
  else if r1 = 5 then
    bndI (K m_Mo_aCouple [vR 12 0 a0, vI 0] S1 M1) fun r7 S7 M7 =>
    Run K tb_Mo_worldPart 163 [vR 12 0 a0, vI r7] [] S7 M7
  else if r1 = 6 then
    bndI (K m_Mo_aShip [vR 12 0 a0] S1 M1) fun r8 S8 M8 =>
    Run K tb_Mo_worldPart 163 [vR 12 0 a0, vI r8] [] S8 M8
  else if r1 = 7 then
    bndI (K m_Mo_aLoad [vR 12 0 a0] S1 M1) fun r9 S9 M9 =>
    Run K tb_Mo_worldPart 163 [vR 12 0 a0, vI r9] [] S9 M9
  else if r1 = 8 then
    if M1 a0 20 = 0 then
      bndV (K m_Mo_ahead [vR 12 0 a0] S1 (up M1 a0 20 1)) fun S10 M10 =>
      bndI (K m_Mo_number [vR 12 0 a0, vI 2292, vI 0, vI 2] S10 M10) fun r11 S11 M11 =>
      Run K tb_Mo_worldPart 163 [vR 12 0 a0, vI r11] [] S11 M11
    else
      bndI (K m_Mo_fails [vR 12 0 a0, vI 5] S1 M1) fun r12 S12 M12 =>
      some (some (vI (r12 % 2)), S12, M12)
  else bndI (K m_Mo_fails [vR 12 0 a0, vI 2] S1 M1) fun r13 S13 M13 =>
    some (some (vI (r13 % 2)), S13, M13) := (Run_EE K tb_Mo_worldPart [163] 500 0 _ _ S M).trans rfl
set_option maxRecDepth 100000 in
theorem b_Mo_worldPart_163 (K : Cal) (a0 : Nat) (x1 : Int) (S : Sp) (M : Mm) : Run K tb_Mo_worldPart 163 [vR 12 0 a0, vI x1] [] S M =
  if x1 = 0 then
    some (some (vI 0), S, M)
  else
    bndI (K m_Mo_wantSign [vR 12 0 a0, vI 59] S M) fun r1 S1 M1 =>
    if r1 = 0 then
      some (some (vI 0), S1, M1)
    else
      some (some (vI 1), S1, M1) := (Run_EE K tb_Mo_worldPart [163] 500 163 _ _ S M).trans rfl
set_option maxRecDepth 100000 in
theorem b_Mo_inWords_0 (K : Cal) (a0 : Nat) (a1 : Nat) (n1 : Int) (S : Sp) (M : Mm) : Run K tb_Mo_inWords 0 [vR 12 0 a0, vR 13 n1 a1, vU, vU, vU, vU, vU] [] S M =
  if M a0 12 = 2 then
    Run K tb_Mo_inWords 14 [vR 12 0 a0, vR 13 n1 a1, vI 0, vI 1, vU, vU, vU] [] S M
  else
    some (some (vI (-1)), S, M) := (Run_EE K tb_Mo_inWords [14, 25, 68] 500 0 _ _ S M).trans rfl
set_option maxRecDepth 100000 in
theorem b_Mo_inWords_14 (K : Cal) (a0 : Nat) (a1 : Nat) (n1 : Int) (x2 : Int) (x3 : Int) (d4 : AV) (d5 : AV) (d6 : AV) (S : Sp) (M : Mm) : Run K tb_Mo_inWords 14 [vR 12 0 a0, vR 13 n1 a1, vI x2, vI x3, d4, d5, d6] [] S M =
  if x3 < strL n1 then
    Run K tb_Mo_inWords 25 [vR 12 0 a0, vR 13 n1 a1, vI x2, vI x3, vI x3, d5, d6] [] S M
  else
    some (some (vI (-1)), S, M) := (Run_EE K tb_Mo_inWords [14, 25, 68] 500 14 _ _ S M).trans rfl
set_option maxRecDepth 100000 in
theorem b_Mo_inWords_25 (K : Cal) (a0 : Nat) (a1 : Nat) (n1 : Int) (x2 : Int) (x3 : Int) (x4 : Int) (d5 : AV) (d6 : AV) (S : Sp) (M : Mm) : Run K tb_Mo_inWords 25 [vR 12 0 a0, vR 13 n1 a1, vI x2, vI x3, vI x4, d5, d6] [] S M =
  if 0 ≤ x4 ∧ x4 < strL n1 then
    if strC n1 x4.toNat = 32 then
      if w32 (x4 - x3) = w32 ((M a0 14) - (M a0 13)) then
        Run K tb_Mo_inWords 68 [vR 12 0 a0, vR 13 n1 a1, vI x2, vI x3, vI x4, vI 1, vI x3] [] S M
      else
        Run K tb_Mo_inWords 68 [vR 12 0 a0, vR 13 n1 a1, vI x2, vI x3, vI x4, vI 0, vI x3] [] S M
    else
      Run K tb_Mo_inWords 25 [vR 12 0 a0, vR 13 n1 a1, vI x2, vI x3, vI (w32 (x4 + 1)), d5, d6] [] S M
  else none := (Run_EE K tb_Mo_inWords [14, 25, 68] 500 25 _ _ S M).trans rfl
set_option maxRecDepth 100000 in
theorem b_Mo_inWords_68 (K : Cal) (a0 : Nat) (a1 : Nat) (n1 : Int) (x2 : Int) (x3 : Int) (x4 : Int) (x5 : Int) (x6 : Int) (S : Sp) (M : Mm) : Run K tb_Mo_inWords 68 [vR 12 0 a0, vR 13 n1 a1, vI x2, vI x3, vI x4, vI x5, vI x6] [] S M =
  if x6 < x4 then
    if x5 = 0 then
      if x5 = 0 then
        Run K tb_Mo_inWords 14 [vR 12 0 a0, vR 13 n1 a1, vI (w32 (x2 + 1)), vI (w32 (x4 + 1)), vI x4, vI x5, vI x6] [] S M
      else
        some (some (vI x2), S, M)
    else
      if 0 ≤ x6 ∧ x6 < strL n1 then
        bndI (K m_Mo_byteAt [vR 12 0 a0, vI (w32 ((w32 ((M a0 13) + x6)) - x3))] S M) fun r1 S1 M1 =>
        if strC n1 x6.toNat = r1 then
          Run K tb_Mo_inWords 68 [vR 12 0 a0, vR 13 n1 a1, vI x2, vI x3, vI x4, vI 1, vI (w32 (x6 + 1))] [] S1 M1
        else
          Run K tb_Mo_inWords 68 [vR 12 0 a0, vR 13 n1 a1, vI x2, vI x3, vI x4, vI 0, vI (w32 (x6 + 1))] [] S1 M1
      else none
  else
    if x5 = 0 then
      Run K tb_Mo_inWords 14 [vR 12 0 a0, vR 13 n1 a1, vI (w32 (x2 + 1)), vI (w32 (x4 + 1)), vI x4, vI x5, vI x6] [] S M
    else
      some (some (vI x2), S, M) := (Run_EE K tb_Mo_inWords [14, 25, 68] 500 68 _ _ S M).trans rfl
set_option maxRecDepth 100000 in
theorem b_Mo_aNation_0 (K : Cal) (a0 : Nat) (S : Sp) (M : Mm) : Run K tb_Mo_aNation 0 [vR 12 0 a0, vU] [] S M =
  bR (refOf S a0 0) fun b1 =>
  bndI (K m_Mo_newOne [vR 12 0 a0, vI 0, vI 6, vI 0] S M) fun r2 S2 M2 =>
    if r2 = 0 then
      some (some (vI 0), S2, M2)
    else
      bR (refOf S2 a0 0) fun b3 =>
      if 0 ≤ w32 (2296 + (w32 (4 * (M b1 2288)))) ∧ w32 (2296 + (w32 (4 * (M b1 2288)))) < 4004 then
          bndI (K m_Mo_isThere [vR 12 0 a0, vI 9] S2 (up M2 b3 (w32 (2296 + (w32 (4 * (M b1 2288))))).toNat 1)) fun r4 S4 M4 =>
          if r4 = 0 then
            bndI (K m_Mo_isThere [vR 12 0 a0, vI 10] S4 M4) fun r5 S5 M5 =>
            if r5 = 0 then
              bndI (K m_Mo_isThere [vR 12 0 a0, vI 11] S5 M5) fun r6 S6 M6 =>
              if r6 = 0 then
                bR (refOf S6 a0 0) fun b7 =>
                some (some (vI 1), S6, up M6 b7 2288 (w32 ((M6 b7 2288) + 1)))
              else
                bndI (K m_Mo_number [vR 12 0 a0, vI (w32 ((w32 (2296 + (w32 (4 * (M b1 2288))))) + 2)), vI 0, vI 255] S6 M6) fun r8 S8 M8 =>
                if r8 = 0 then
                  some (some (vI 0), S8, M8)
                else
                  bR (refOf S8 a0 0) fun b9 =>
                  some (some (vI 1), S8, up M8 b9 2288 (w32 ((M8 b9 2288) + 1)))
            else
              bndI (K m_Mo_number [vR 12 0 a0, vI (w32 ((w32 (2296 + (w32 (4 * (M b1 2288))))) + 1)), vI 0, vI 9] S5 M5) fun r10 S10 M10 =>
              if r10 = 0 then
                some (some (vI 0), S10, M10)
              else
                bndI (K m_Mo_isThere [vR 12 0 a0, vI 11] S10 M10) fun r11 S11 M11 =>
                if r11 = 0 then
                  bR (refOf S11 a0 0) fun b12 =>
                  some (some (vI 1), S11, up M11 b12 2288 (w32 ((M11 b12 2288) + 1)))
                else
                  bndI (K m_Mo_number [vR 12 0 a0, vI (w32 ((w32 (2296 + (w32 (4 * (M b1 2288))))) + 2)), vI 0, vI 255] S11 M11) fun r13 S13 M13 =>
                  if r13 = 0 then
                    some (some (vI 0), S13, M13)
                  else
                    bR (refOf S13 a0 0) fun b14 =>
                    some (some (vI 1), S13, up M13 b14 2288 (w32 ((M13 b14 2288) + 1)))
          else
            bndI (K m_Mo_number [vR 12 0 a0, vI (w32 (2296 + (w32 (4 * (M b1 2288))))), vI 0, vI 20] S4 M4) fun r15 S15 M15 =>
            if r15 = 0 then
              some (some (vI 0), S15, M15)
            else
              bndI (K m_Mo_isThere [vR 12 0 a0, vI 10] S15 M15) fun r16 S16 M16 =>
              if r16 = 0 then
                bndI (K m_Mo_isThere [vR 12 0 a0, vI 11] S16 M16) fun r17 S17 M17 =>
                if r17 = 0 then
                  bR (refOf S17 a0 0) fun b18 =>
                  some (some (vI 1), S17, up M17 b18 2288 (w32 ((M17 b18 2288) + 1)))
                else
                  bndI (K m_Mo_number [vR 12 0 a0, vI (w32 ((w32 (2296 + (w32 (4 * (M b1 2288))))) + 2)), vI 0, vI 255] S17 M17) fun r19 S19 M19 =>
                  if r19 = 0 then
                    some (some (vI 0), S19, M19)
                  else
                    bR (refOf S19 a0 0) fun b20 =>
                    some (some (vI 1), S19, up M19 b20 2288 (w32 ((M19 b20 2288) + 1)))
              else
                bndI (K m_Mo_number [vR 12 0 a0, vI (w32 ((w32 (2296 + (w32 (4 * (M b1 2288))))) + 1)), vI 0, vI 9] S16 M16) fun r21 S21 M21 =>
                if r21 = 0 then
                  some (some (vI 0), S21, M21)
                else
                  bndI (K m_Mo_isThere [vR 12 0 a0, vI 11] S21 M21) fun r22 S22 M22 =>
                  if r22 = 0 then
                    bR (refOf S22 a0 0) fun b23 =>
                    some (some (vI 1), S22, up M22 b23 2288 (w32 ((M22 b23 2288) + 1)))
                  else
                    bndI (K m_Mo_number [vR 12 0 a0, vI (w32 ((w32 (2296 + (w32 (4 * (M b1 2288))))) + 2)), vI 0, vI 255] S22 M22) fun r24 S24 M24 =>
                    if r24 = 0 then
                      some (some (vI 0), S24, M24)
                    else
                      bR (refOf S24 a0 0) fun b25 =>
                      some (some (vI 1), S24, up M24 b25 2288 (w32 ((M24 b25 2288) + 1)))
        else none := (Run_EE K tb_Mo_aNation [] 500 0 _ _ S M).trans rfl
set_option maxRecDepth 100000 in
theorem b_Mo_newOne_0 (K : Cal) (a0 : Nat) (x1 : Int) (x2 : Int) (x3 : Int) (S : Sp) (M : Mm) : Run K tb_Mo_newOne 0 [vR 12 0 a0, vI x1, vI x2, vI x3] [] S M =
  bR (refOf S a0 0) fun b1 =>
  if 0 ≤ w32 (2288 + x1) ∧ w32 (2288 + x1) < 4004 then
      if M b1 (w32 (2288 + x1)).toNat = x2 then
        bndI (K m_Mo_fails [vR 12 0 a0, vI 6] S M) fun r2 S2 M2 =>
        some (some (vI (r2 % 2)), S2, M2)
      else
        bndV (K m_Mo_ahead [vR 12 0 a0] S M) fun S3 M3 =>
        bndI (K m_Mo_isName [vR 12 0 a0, vR 13 1 2] S3 M3) fun r4 S4 M4 =>
        if r4 = 0 then
          bndI (K m_Mo_fails [vR 12 0 a0, vI 2] S4 M4) fun r5 S5 M5 =>
          some (some (vI (r5 % 2)), S5, M5)
        else
          bR (refOf S4 a0 0) fun b6 =>
          bndI (K m_Mo_findHere [vR 12 0 a0, vI 96, vI (M4 b6 2288)] S4 M4) fun r7 S7 M7 =>
            if r7 = (-1) then
              bR (refOf S7 a0 0) fun b8 =>
              bndI (K m_Mo_findHere [vR 12 0 a0, vI 102, vI (M7 b8 2289)] S7 M7) fun r9 S9 M9 =>
                if r9 = (-1) then
                  bR (refOf S9 a0 0) fun b10 =>
                  bndI (K m_Mo_findHere [vR 12 0 a0, vI 110, vI (M9 b10 2290)] S9 M9) fun r11 S11 M11 =>
                    if r11 = (-1) then
                      bR (refOf S11 a0 0) fun b12 =>
                      bndI (K m_Mo_findHere [vR 12 0 a0, vI 116, vI (M11 b12 2291)] S11 M11) fun r13 S13 M13 =>
                        if r13 = (-1) then
                          bR (refOf S13 a0 1) fun b14 =>
                          bR (refOf S13 a0 0) fun b15 =>
                            if 0 ≤ w32 (2288 + x1) ∧ w32 (2288 + x1) < 4004 then
                                bndL (K m_Mo_nameHere [vR 12 0 a0] S13 M13) fun r16 S16 M16 =>
                                if 0 ≤ w32 ((w32 (96 + x3)) + (M13 b15 (w32 (2288 + x1)).toNat)) ∧ w32 ((w32 (96 + x3)) + (M13 b15 (w32 (2288 + x1)).toNat)) < 144 then
                                  bndV (K m_Mo_ahead [vR 12 0 a0] S16 (up M16 b14 (w32 ((w32 (96 + x3)) + (M13 b15 (w32 (2288 + x1)).toNat))).toNat r16)) fun S17 M17 =>
                                  some (some (vI 1), S17, M17)
                                else none
                              else none
                        else
                          bndI (K m_Mo_fails [vR 12 0 a0, vI 3] S13 M13) fun r18 S18 M18 =>
                          some (some (vI (r18 % 2)), S18, M18)
                    else
                      bndI (K m_Mo_fails [vR 12 0 a0, vI 3] S11 M11) fun r19 S19 M19 =>
                      some (some (vI (r19 % 2)), S19, M19)
                else
                  bndI (K m_Mo_fails [vR 12 0 a0, vI 3] S9 M9) fun r20 S20 M20 =>
                  some (some (vI (r20 % 2)), S20, M20)
            else
              bndI (K m_Mo_fails [vR 12 0 a0, vI 3] S7 M7) fun r21 S21 M21 =>
              some (some (vI (r21 % 2)), S21, M21)
    else none := (Run_EE K tb_Mo_newOne [] 500 0 _ _ S M).trans rfl
set_option maxRecDepth 100000 in
theorem b_Mo_fails_0 (K : Cal) (a0 : Nat) (x1 : Int) (S : Sp) (M : Mm) : Run K tb_Mo_fails 0 [vR 12 0 a0, vI x1] [] S M =
  if M a0 18 = 0 then
    if M a0 12 = 1 then
      some (some (vI 0), S, up (up M a0 18 1) a0 17 ((up M a0 18 1) a0 13))
    else
      some (some (vI 0), S, up (up M a0 18 x1) a0 17 ((up M a0 18 x1) a0 13))
  else
    some (some (vI 0), S, M) := (Run_EE K tb_Mo_fails [] 500 0 _ _ S M).trans rfl
set_option maxRecDepth 100000 in
theorem b_Mo_isName_0 (K : Cal) (a0 : Nat) (a1 : Nat) (n1 : Int) (S : Sp) (M : Mm) : Run K tb_Mo_isName 0 [vR 12 0 a0, vR 13 n1 a1] [] S M =
  if M a0 12 = 2 then
    if 8 < w32 ((M a0 14) - (M a0 13)) then
      some (some (vI 0), S, M)
    else
      bndI (K m_Mo_inWords [vR 12 0 a0, vR 13 n1 a1] S M) fun r1 S1 M1 =>
      if r1 = (-1) then
        some (some (vI 1), S1, M1)
      else
        some (some (vI 0), S1, M1)
  else
    some (some (vI 0), S, M) := (Run_EE K tb_Mo_isName [] 500 0 _ _ S M).trans rfl
set_option maxRecDepth 100000 in
theorem b_Mo_findHere_0 (K : Cal) (a0 : Nat) (x1 : Int) (x2 : Int) (S : Sp) (M : Mm) : Run K tb_Mo_findHere 0 [vR 12 0 a0, vI x1, vI x2, vU] [] S M =
  Run K tb_Mo_findHere 2 [vR 12 0 a0, vI x1, vI x2, vI 0] [] S M := (Run_EE K tb_Mo_findHere [2] 500 0 _ _ S M).trans rfl
set_option maxRecDepth 100000 in
theorem b_Mo_findHere_2 (K : Cal) (a0 : Nat) (x1 : Int) (x2 : Int) (x3 : Int) (S : Sp) (M : Mm) : Run K tb_Mo_findHere 2 [vR 12 0 a0, vI x1, vI x2, vI x3] [] S M =
  if x3 < x2 then
    bR (refOf S a0 1) fun b1 =>
    if 0 ≤ w32 (x1 + x3) ∧ w32 (x1 + x3) < 144 then
        bndL (K m_Mo_nameHere [vR 12 0 a0] S M) fun r2 S2 M2 =>
        if cmp3 (M b1 (w32 (x1 + x3)).toNat) r2 = 0 then
          some (some (vI x3), S2, M2)
        else
          Run K tb_Mo_findHere 2 [vR 12 0 a0, vI x1, vI x2, vI (w32 (x3 + 1))] [] S2 M2
      else none
  else
    some (some (vI (-1)), S, M) := (Run_EE K tb_Mo_findHere [2] 500 2 _ _ S M).trans rfl
set_option maxRecDepth 100000 in
theorem b_Mo_nameHere_0 (K : Cal) (a0 : Nat) (S : Sp) (M : Mm) : Run K tb_Mo_nameHere 0 [vR 12 0 a0, vU, vU, vU] [] S M =
  Run K tb_Mo_nameHere 7 [vR 12 0 a0, vL 0, vU, vI (M a0 13)] [] S M := (Run_EE K tb_Mo_nameHere [7] 500 0 _ _ S M).trans rfl
set_option maxRecDepth 100000 in
theorem b_Mo_nameHere_7 (K : Cal) (a0 : Nat) (x1 : Int) (d2 : AV) (x3 : Int) (S : Sp) (M : Mm) : Run K tb_Mo_nameHere 7 [vR 12 0 a0, vL x1, d2, vI x3] [] S M =
  if x3 < M a0 14 then
    bndI (K m_Mo_byteAt [vR 12 0 a0, vI x3] S M) fun r1 S1 M1 =>
    Run K tb_Mo_nameHere 7 [vR 12 0 a0, vL (or64 (shl64 x1 8) r1), vU, vI (w32 (x3 + 1))] [] S1 M1
  else
    some (some (vL x1), S, M) := (Run_EE K tb_Mo_nameHere [7] 500 7 _ _ S M).trans rfl
set_option maxRecDepth 100000 in
theorem b_Mo_isThere_0 (K : Cal) (a0 : Nat) (x1 : Int) (S : Sp) (M : Mm) : Run K tb_Mo_isThere 0 [vR 12 0 a0, vI x1] [] S M =
  bndI (K m_Mo_inWords [vR 12 0 a0, vR 13 1 2] S M) fun r1 S1 M1 =>
  if r1 = x1 then
    bndV (K m_Mo_ahead [vR 12 0 a0] S1 M1) fun S2 M2 =>
    some (some (vI 1), S2, M2)
  else
    some (some (vI 0), S1, M1) := (Run_EE K tb_Mo_isThere [] 500 0 _ _ S M).trans rfl
set_option maxRecDepth 100000 in
theorem b_Mo_number_0 (K : Cal) (a0 : Nat) (x1 : Int) (x2 : Int) (x3 : Int) (S : Sp) (M : Mm) : Run K tb_Mo_number 0 [vR 12 0 a0, vI x1, vI x2, vI x3] [] S M =
  if M a0 12 = 3 then
    if M a0 15 < x2 then
      bndI (K m_Mo_fails [vR 12 0 a0, vI 4] S M) fun r1 S1 M1 =>
      some (some (vI (r1 % 2)), S1, M1)
    else
      if x3 < M a0 15 then
        bndI (K m_Mo_fails [vR 12 0 a0, vI 4] S M) fun r2 S2 M2 =>
        some (some (vI (r2 % 2)), S2, M2)
      else
        bR (refOf S a0 0) fun b3 =>
        if 0 ≤ x1 ∧ x1 < 4004 then
            bndV (K m_Mo_ahead [vR 12 0 a0] S (up M b3 x1.toNat (M a0 15))) fun S4 M4 =>
            some (some (vI 1), S4, M4)
          else none
  else
    bndI (K m_Mo_fails [vR 12 0 a0, vI 2] S M) fun r5 S5 M5 =>
    some (some (vI (r5 % 2)), S5, M5) := (Run_EE K tb_Mo_number [] 500 0 _ _ S M).trans rfl
set_option maxRecDepth 100000 in
theorem b_Mo_aCouple_0 (K : Cal) (a0 : Nat) (x1 : Int) (S : Sp) (M : Mm) : Run K tb_Mo_aCouple 0 [vR 12 0 a0, vI x1, vU] [] S M =
  bndV (K m_Mo_ahead [vR 12 0 a0] S M) fun S1 M1 =>
  if x1 = 0 then
    bndI (K m_Mo_portTo [vR 12 0 a0, vI 2854] S1 M1) fun r2 S2 M2 =>
    if r2 = 0 then
      some (some (vI 0), S2, M2)
    else
      bndI (K m_Mo_isName [vR 12 0 a0, vR 13 1 2] S2 M2) fun r3 S3 M3 =>
      if r3 = 0 then
        Run K tb_Mo_aCouple 92 [vR 12 0 a0, vI x1, vI 2854] [] S3 M3
      else
        if x1 = 0 then
          bR (refOf S3 a0 0) fun b4 =>
          bndI (K m_Mo_findHere [vR 12 0 a0, vI 110, vI (M3 b4 2290)] S3 M3) fun r5 S5 M5 =>
            bR (refOf S5 a0 0) fun b6 =>
            if r5 = M5 b6 2854 then
                bndI (K m_Mo_fails [vR 12 0 a0, vI 5] S5 M5) fun r7 S7 M7 =>
                some (some (vI (r7 % 2)), S7, M7)
              else
                Run K tb_Mo_aCouple 92 [vR 12 0 a0, vI x1, vI 2854] [] S5 M5
        else
          bR (refOf S3 a0 0) fun b8 =>
          bndI (K m_Mo_findHere [vR 12 0 a0, vI 96, vI (M3 b8 2288)] S3 M3) fun r9 S9 M9 =>
            bR (refOf S9 a0 0) fun b10 =>
            if r9 = M9 b10 2854 then
                bndI (K m_Mo_fails [vR 12 0 a0, vI 5] S9 M9) fun r11 S11 M11 =>
                some (some (vI (r11 % 2)), S11, M11)
              else
                Run K tb_Mo_aCouple 92 [vR 12 0 a0, vI x1, vI 2854] [] S9 M9
  else
    bndI (K m_Mo_nationTo [vR 12 0 a0, vI 2854] S1 M1) fun r12 S12 M12 =>
    if r12 = 0 then
      some (some (vI 0), S12, M12)
    else
      bndI (K m_Mo_isName [vR 12 0 a0, vR 13 1 2] S12 M12) fun r13 S13 M13 =>
      if r13 = 0 then
        Run K tb_Mo_aCouple 92 [vR 12 0 a0, vI x1, vI 2854] [] S13 M13
      else
        if x1 = 0 then
          bR (refOf S13 a0 0) fun b14 =>
          bndI (K m_Mo_findHere [vR 12 0 a0, vI 110, vI (M13 b14 2290)] S13 M13) fun r15 S15 M15 =>
            bR (refOf S15 a0 0) fun b16 =>
            if r15 = M15 b16 2854 then
                bndI (K m_Mo_fails [vR 12 0 a0, vI 5] S15 M15) fun r17 S17 M17 =>
                some (some (vI (r17 % 2)), S17, M17)
              else
                Run K tb_Mo_aCouple 92 [vR 12 0 a0, vI x1, vI 2854] [] S15 M15
        else
          bR (refOf S13 a0 0) fun b18 =>
          bndI (K m_Mo_findHere [vR 12 0 a0, vI 96, vI (M13 b18 2288)] S13 M13) fun r19 S19 M19 =>
            bR (refOf S19 a0 0) fun b20 =>
            if r19 = M19 b20 2854 then
                bndI (K m_Mo_fails [vR 12 0 a0, vI 5] S19 M19) fun r21 S21 M21 =>
                some (some (vI (r21 % 2)), S21, M21)
              else
                Run K tb_Mo_aCouple 92 [vR 12 0 a0, vI x1, vI 2854] [] S19 M19 := (Run_EE K tb_Mo_aCouple [92] 500 0 _ _ S M).trans rfl
set_option maxRecDepth 100000 in
theorem b_Mo_aCouple_92 (K : Cal) (a0 : Nat) (x1 : Int) (x2 : Int) (S : Sp) (M : Mm) : Run K tb_Mo_aCouple 92 [vR 12 0 a0, vI x1, vI x2] [] S M =
  if x1 = 0 then
    bndI (K m_Mo_portTo [vR 12 0 a0, vI (w32 (x2 + 1))] S M) fun r1 S1 M1 =>
    if r1 = 0 then
      some (some (vI 0), S1, M1)
    else
      if x1 = 0 then
        bndI (K m_Mo_wantWord [vR 12 0 a0, vR 13 1 2, vI 15] S1 M1) fun r2 S2 M2 =>
        if r2 = 0 then
          some (some (vI 0), S2, M2)
        else
          bndI (K m_Mo_number [vR 12 0 a0, vI (w32 (x2 + 2)), vI 1, vI 20] S2 M2) fun r3 S3 M3 =>
          if r3 = 0 then
            some (some (vI 0), S3, M3)
          else
            bR (refOf S3 a0 0) fun b4 =>
            bR (refOf S3 a0 0) fun b5 =>
              if 0 ≤ x2 ∧ x2 < 4004 then
                  bR (refOf S3 a0 0) fun b6 =>
                  if 0 ≤ w32 (x2 + 1) ∧ w32 (x2 + 1) < 4004 then
                      bR (refOf S3 a0 0) fun b7 =>
                      if 0 ≤ w32 (x2 + 2) ∧ w32 (x2 + 2) < 4004 then
                          if 0 ≤ w32 ((w32 ((w32 (2344 + (w32 (15 * (M3 b5 x2.toNat))))) + 9)) + (M3 b6 (w32 (x2 + 1)).toNat)) ∧ w32 ((w32 ((w32 (2344 + (w32 (15 * (M3 b5 x2.toNat))))) + 9)) + (M3 b6 (w32 (x2 + 1)).toNat)) < 4004 then
                            bR (refOf S3 a0 0) fun b8 =>
                            bR (refOf S3 a0 0) fun b9 =>
                              if 0 ≤ w32 (x2 + 1) ∧ w32 (x2 + 1) < 4004 then
                                  bR (refOf S3 a0 0) fun b10 =>
                                  if 0 ≤ x2 ∧ x2 < 4004 then
                                      bR (refOf S3 a0 0) fun b11 =>
                                      if 0 ≤ w32 (x2 + 2) ∧ w32 (x2 + 2) < 4004 then
                                          if 0 ≤ w32 ((w32 ((w32 (2344 + (w32 (15 * ((up M3 b4 (w32 ((w32 ((w32 (2344 + (w32 (15 * (M3 b5 x2.toNat))))) + 9)) + (M3 b6 (w32 (x2 + 1)).toNat))).toNat (M3 b7 (w32 (x2 + 2)).toNat)) b9 (w32 (x2 + 1)).toNat))))) + 9)) + ((up M3 b4 (w32 ((w32 ((w32 (2344 + (w32 (15 * (M3 b5 x2.toNat))))) + 9)) + (M3 b6 (w32 (x2 + 1)).toNat))).toNat (M3 b7 (w32 (x2 + 2)).toNat)) b10 x2.toNat)) ∧ w32 ((w32 ((w32 (2344 + (w32 (15 * ((up M3 b4 (w32 ((w32 ((w32 (2344 + (w32 (15 * (M3 b5 x2.toNat))))) + 9)) + (M3 b6 (w32 (x2 + 1)).toNat))).toNat (M3 b7 (w32 (x2 + 2)).toNat)) b9 (w32 (x2 + 1)).toNat))))) + 9)) + ((up M3 b4 (w32 ((w32 ((w32 (2344 + (w32 (15 * (M3 b5 x2.toNat))))) + 9)) + (M3 b6 (w32 (x2 + 1)).toNat))).toNat (M3 b7 (w32 (x2 + 2)).toNat)) b10 x2.toNat)) < 4004 then
                                            some (some (vI 1), S3, up (up M3 b4 (w32 ((w32 ((w32 (2344 + (w32 (15 * (M3 b5 x2.toNat))))) + 9)) + (M3 b6 (w32 (x2 + 1)).toNat))).toNat (M3 b7 (w32 (x2 + 2)).toNat)) b8 (w32 ((w32 ((w32 (2344 + (w32 (15 * ((up M3 b4 (w32 ((w32 ((w32 (2344 + (w32 (15 * (M3 b5 x2.toNat))))) + 9)) + (M3 b6 (w32 (x2 + 1)).toNat))).toNat (M3 b7 (w32 (x2 + 2)).toNat)) b9 (w32 (x2 + 1)).toNat))))) + 9)) + ((up M3 b4 (w32 ((w32 ((w32 (2344 + (w32 (15 * (M3 b5 x2.toNat))))) + 9)) + (M3 b6 (w32 (x2 + 1)).toNat))).toNat (M3 b7 (w32 (x2 + 2)).toNat)) b10 x2.toNat))).toNat ((up M3 b4 (w32 ((w32 ((w32 (2344 + (w32 (15 * (M3 b5 x2.toNat))))) + 9)) + (M3 b6 (w32 (x2 + 1)).toNat))).toNat (M3 b7 (w32 (x2 + 2)).toNat)) b11 (w32 (x2 + 2)).toNat))
                                          else none
                                        else none
                                    else none
                                else none
                          else none
                        else none
                    else none
                else none
      else
        bR (refOf S1 a0 0) fun b12 =>
        bR (refOf S1 a0 0) fun b13 =>
          if 0 ≤ x2 ∧ x2 < 4004 then
              if 0 ≤ w32 ((w32 (2296 + (w32 (4 * (M1 b13 x2.toNat))))) + 3) ∧ w32 ((w32 (2296 + (w32 (4 * (M1 b13 x2.toNat))))) + 3) < 4004 then
                bR (refOf S1 a0 0) fun b14 =>
                if 0 ≤ w32 (x2 + 1) ∧ w32 (x2 + 1) < 4004 then
                    if 0 ≤ w32 ((w32 (2296 + (w32 (4 * (M1 b13 x2.toNat))))) + 3) ∧ w32 ((w32 (2296 + (w32 (4 * (M1 b13 x2.toNat))))) + 3) < 4004 then
                      bR (refOf S1 a0 0) fun b15 =>
                      bR (refOf S1 a0 0) fun b16 =>
                        if 0 ≤ w32 (x2 + 1) ∧ w32 (x2 + 1) < 4004 then
                            if 0 ≤ w32 ((w32 (2296 + (w32 (4 * ((up M1 b12 (w32 ((w32 (2296 + (w32 (4 * (M1 b13 x2.toNat))))) + 3)).toNat (or32 (M1 b12 (w32 ((w32 (2296 + (w32 (4 * (M1 b13 x2.toNat))))) + 3)).toNat) (shl32 1 (M1 b14 (w32 (x2 + 1)).toNat)))) b16 (w32 (x2 + 1)).toNat))))) + 3) ∧ w32 ((w32 (2296 + (w32 (4 * ((up M1 b12 (w32 ((w32 (2296 + (w32 (4 * (M1 b13 x2.toNat))))) + 3)).toNat (or32 (M1 b12 (w32 ((w32 (2296 + (w32 (4 * (M1 b13 x2.toNat))))) + 3)).toNat) (shl32 1 (M1 b14 (w32 (x2 + 1)).toNat)))) b16 (w32 (x2 + 1)).toNat))))) + 3) < 4004 then
                              bR (refOf S1 a0 0) fun b17 =>
                              if 0 ≤ x2 ∧ x2 < 4004 then
                                  if 0 ≤ w32 ((w32 (2296 + (w32 (4 * ((up M1 b12 (w32 ((w32 (2296 + (w32 (4 * (M1 b13 x2.toNat))))) + 3)).toNat (or32 (M1 b12 (w32 ((w32 (2296 + (w32 (4 * (M1 b13 x2.toNat))))) + 3)).toNat) (shl32 1 (M1 b14 (w32 (x2 + 1)).toNat)))) b16 (w32 (x2 + 1)).toNat))))) + 3) ∧ w32 ((w32 (2296 + (w32 (4 * ((up M1 b12 (w32 ((w32 (2296 + (w32 (4 * (M1 b13 x2.toNat))))) + 3)).toNat (or32 (M1 b12 (w32 ((w32 (2296 + (w32 (4 * (M1 b13 x2.toNat))))) + 3)).toNat) (shl32 1 (M1 b14 (w32 (x2 + 1)).toNat)))) b16 (w32 (x2 + 1)).toNat))))) + 3) < 4004 then
                                    some (some (vI 1), S1, up (up M1 b12 (w32 ((w32 (2296 + (w32 (4 * (M1 b13 x2.toNat))))) + 3)).toNat (or32 (M1 b12 (w32 ((w32 (2296 + (w32 (4 * (M1 b13 x2.toNat))))) + 3)).toNat) (shl32 1 (M1 b14 (w32 (x2 + 1)).toNat)))) b15 (w32 ((w32 (2296 + (w32 (4 * ((up M1 b12 (w32 ((w32 (2296 + (w32 (4 * (M1 b13 x2.toNat))))) + 3)).toNat (or32 (M1 b12 (w32 ((w32 (2296 + (w32 (4 * (M1 b13 x2.toNat))))) + 3)).toNat) (shl32 1 (M1 b14 (w32 (x2 + 1)).toNat)))) b16 (w32 (x2 + 1)).toNat))))) + 3)).toNat (or32 ((up M1 b12 (w32 ((w32 (2296 + (w32 (4 * (M1 b13 x2.toNat))))) + 3)).toNat (or32 (M1 b12 (w32 ((w32 (2296 + (w32 (4 * (M1 b13 x2.toNat))))) + 3)).toNat) (shl32 1 (M1 b14 (w32 (x2 + 1)).toNat)))) b15 (w32 ((w32 (2296 + (w32 (4 * ((up M1 b12 (w32 ((w32 (2296 + (w32 (4 * (M1 b13 x2.toNat))))) + 3)).toNat (or32 (M1 b12 (w32 ((w32 (2296 + (w32 (4 * (M1 b13 x2.toNat))))) + 3)).toNat) (shl32 1 (M1 b14 (w32 (x2 + 1)).toNat)))) b16 (w32 (x2 + 1)).toNat))))) + 3)).toNat) (shl32 1 ((up M1 b12 (w32 ((w32 (2296 + (w32 (4 * (M1 b13 x2.toNat))))) + 3)).toNat (or32 (M1 b12 (w32 ((w32 (2296 + (w32 (4 * (M1 b13 x2.toNat))))) + 3)).toNat) (shl32 1 (M1 b14 (w32 (x2 + 1)).toNat)))) b17 x2.toNat))))
                                  else none
                                else none
                            else none
                          else none
                    else none
                  else none
              else none
            else none
  else
    bndI (K m_Mo_nationTo [vR 12 0 a0, vI (w32 (x2 + 1))] S M) fun r18 S18 M18 =>
    if r18 = 0 then
      some (some (vI 0), S18, M18)
    else
      if x1 = 0 then
        bndI (K m_Mo_wantWord [vR 12 0 a0, vR 13 1 2, vI 15] S18 M18) fun r19 S19 M19 =>
        if r19 = 0 then
          some (some (vI 0), S19, M19)
        else
          bndI (K m_Mo_number [vR 12 0 a0, vI (w32 (x2 + 2)), vI 1, vI 20] S19 M19) fun r20 S20 M20 =>
          if r20 = 0 then
            some (some (vI 0), S20, M20)
          else
            bR (refOf S20 a0 0) fun b21 =>
            bR (refOf S20 a0 0) fun b22 =>
              if 0 ≤ x2 ∧ x2 < 4004 then
                  bR (refOf S20 a0 0) fun b23 =>
                  if 0 ≤ w32 (x2 + 1) ∧ w32 (x2 + 1) < 4004 then
                      bR (refOf S20 a0 0) fun b24 =>
                      if 0 ≤ w32 (x2 + 2) ∧ w32 (x2 + 2) < 4004 then
                          if 0 ≤ w32 ((w32 ((w32 (2344 + (w32 (15 * (M20 b22 x2.toNat))))) + 9)) + (M20 b23 (w32 (x2 + 1)).toNat)) ∧ w32 ((w32 ((w32 (2344 + (w32 (15 * (M20 b22 x2.toNat))))) + 9)) + (M20 b23 (w32 (x2 + 1)).toNat)) < 4004 then
                            bR (refOf S20 a0 0) fun b25 =>
                            bR (refOf S20 a0 0) fun b26 =>
                              if 0 ≤ w32 (x2 + 1) ∧ w32 (x2 + 1) < 4004 then
                                  bR (refOf S20 a0 0) fun b27 =>
                                  if 0 ≤ x2 ∧ x2 < 4004 then
                                      bR (refOf S20 a0 0) fun b28 =>
                                      if 0 ≤ w32 (x2 + 2) ∧ w32 (x2 + 2) < 4004 then
                                          if 0 ≤ w32 ((w32 ((w32 (2344 + (w32 (15 * ((up M20 b21 (w32 ((w32 ((w32 (2344 + (w32 (15 * (M20 b22 x2.toNat))))) + 9)) + (M20 b23 (w32 (x2 + 1)).toNat))).toNat (M20 b24 (w32 (x2 + 2)).toNat)) b26 (w32 (x2 + 1)).toNat))))) + 9)) + ((up M20 b21 (w32 ((w32 ((w32 (2344 + (w32 (15 * (M20 b22 x2.toNat))))) + 9)) + (M20 b23 (w32 (x2 + 1)).toNat))).toNat (M20 b24 (w32 (x2 + 2)).toNat)) b27 x2.toNat)) ∧ w32 ((w32 ((w32 (2344 + (w32 (15 * ((up M20 b21 (w32 ((w32 ((w32 (2344 + (w32 (15 * (M20 b22 x2.toNat))))) + 9)) + (M20 b23 (w32 (x2 + 1)).toNat))).toNat (M20 b24 (w32 (x2 + 2)).toNat)) b26 (w32 (x2 + 1)).toNat))))) + 9)) + ((up M20 b21 (w32 ((w32 ((w32 (2344 + (w32 (15 * (M20 b22 x2.toNat))))) + 9)) + (M20 b23 (w32 (x2 + 1)).toNat))).toNat (M20 b24 (w32 (x2 + 2)).toNat)) b27 x2.toNat)) < 4004 then
                                            some (some (vI 1), S20, up (up M20 b21 (w32 ((w32 ((w32 (2344 + (w32 (15 * (M20 b22 x2.toNat))))) + 9)) + (M20 b23 (w32 (x2 + 1)).toNat))).toNat (M20 b24 (w32 (x2 + 2)).toNat)) b25 (w32 ((w32 ((w32 (2344 + (w32 (15 * ((up M20 b21 (w32 ((w32 ((w32 (2344 + (w32 (15 * (M20 b22 x2.toNat))))) + 9)) + (M20 b23 (w32 (x2 + 1)).toNat))).toNat (M20 b24 (w32 (x2 + 2)).toNat)) b26 (w32 (x2 + 1)).toNat))))) + 9)) + ((up M20 b21 (w32 ((w32 ((w32 (2344 + (w32 (15 * (M20 b22 x2.toNat))))) + 9)) + (M20 b23 (w32 (x2 + 1)).toNat))).toNat (M20 b24 (w32 (x2 + 2)).toNat)) b27 x2.toNat))).toNat ((up M20 b21 (w32 ((w32 ((w32 (2344 + (w32 (15 * (M20 b22 x2.toNat))))) + 9)) + (M20 b23 (w32 (x2 + 1)).toNat))).toNat (M20 b24 (w32 (x2 + 2)).toNat)) b28 (w32 (x2 + 2)).toNat))
                                          else none
                                        else none
                                    else none
                                else none
                          else none
                        else none
                    else none
                else none
      else
        bR (refOf S18 a0 0) fun b29 =>
        bR (refOf S18 a0 0) fun b30 =>
          if 0 ≤ x2 ∧ x2 < 4004 then
              if 0 ≤ w32 ((w32 (2296 + (w32 (4 * (M18 b30 x2.toNat))))) + 3) ∧ w32 ((w32 (2296 + (w32 (4 * (M18 b30 x2.toNat))))) + 3) < 4004 then
                bR (refOf S18 a0 0) fun b31 =>
                if 0 ≤ w32 (x2 + 1) ∧ w32 (x2 + 1) < 4004 then
                    if 0 ≤ w32 ((w32 (2296 + (w32 (4 * (M18 b30 x2.toNat))))) + 3) ∧ w32 ((w32 (2296 + (w32 (4 * (M18 b30 x2.toNat))))) + 3) < 4004 then
                      bR (refOf S18 a0 0) fun b32 =>
                      bR (refOf S18 a0 0) fun b33 =>
                        if 0 ≤ w32 (x2 + 1) ∧ w32 (x2 + 1) < 4004 then
                            if 0 ≤ w32 ((w32 (2296 + (w32 (4 * ((up M18 b29 (w32 ((w32 (2296 + (w32 (4 * (M18 b30 x2.toNat))))) + 3)).toNat (or32 (M18 b29 (w32 ((w32 (2296 + (w32 (4 * (M18 b30 x2.toNat))))) + 3)).toNat) (shl32 1 (M18 b31 (w32 (x2 + 1)).toNat)))) b33 (w32 (x2 + 1)).toNat))))) + 3) ∧ w32 ((w32 (2296 + (w32 (4 * ((up M18 b29 (w32 ((w32 (2296 + (w32 (4 * (M18 b30 x2.toNat))))) + 3)).toNat (or32 (M18 b29 (w32 ((w32 (2296 + (w32 (4 * (M18 b30 x2.toNat))))) + 3)).toNat) (shl32 1 (M18 b31 (w32 (x2 + 1)).toNat)))) b33 (w32 (x2 + 1)).toNat))))) + 3) < 4004 then
                              bR (refOf S18 a0 0) fun b34 =>
                              if 0 ≤ x2 ∧ x2 < 4004 then
                                  if 0 ≤ w32 ((w32 (2296 + (w32 (4 * ((up M18 b29 (w32 ((w32 (2296 + (w32 (4 * (M18 b30 x2.toNat))))) + 3)).toNat (or32 (M18 b29 (w32 ((w32 (2296 + (w32 (4 * (M18 b30 x2.toNat))))) + 3)).toNat) (shl32 1 (M18 b31 (w32 (x2 + 1)).toNat)))) b33 (w32 (x2 + 1)).toNat))))) + 3) ∧ w32 ((w32 (2296 + (w32 (4 * ((up M18 b29 (w32 ((w32 (2296 + (w32 (4 * (M18 b30 x2.toNat))))) + 3)).toNat (or32 (M18 b29 (w32 ((w32 (2296 + (w32 (4 * (M18 b30 x2.toNat))))) + 3)).toNat) (shl32 1 (M18 b31 (w32 (x2 + 1)).toNat)))) b33 (w32 (x2 + 1)).toNat))))) + 3) < 4004 then
                                    some (some (vI 1), S18, up (up M18 b29 (w32 ((w32 (2296 + (w32 (4 * (M18 b30 x2.toNat))))) + 3)).toNat (or32 (M18 b29 (w32 ((w32 (2296 + (w32 (4 * (M18 b30 x2.toNat))))) + 3)).toNat) (shl32 1 (M18 b31 (w32 (x2 + 1)).toNat)))) b32 (w32 ((w32 (2296 + (w32 (4 * ((up M18 b29 (w32 ((w32 (2296 + (w32 (4 * (M18 b30 x2.toNat))))) + 3)).toNat (or32 (M18 b29 (w32 ((w32 (2296 + (w32 (4 * (M18 b30 x2.toNat))))) + 3)).toNat) (shl32 1 (M18 b31 (w32 (x2 + 1)).toNat)))) b33 (w32 (x2 + 1)).toNat))))) + 3)).toNat (or32 ((up M18 b29 (w32 ((w32 (2296 + (w32 (4 * (M18 b30 x2.toNat))))) + 3)).toNat (or32 (M18 b29 (w32 ((w32 (2296 + (w32 (4 * (M18 b30 x2.toNat))))) + 3)).toNat) (shl32 1 (M18 b31 (w32 (x2 + 1)).toNat)))) b32 (w32 ((w32 (2296 + (w32 (4 * ((up M18 b29 (w32 ((w32 (2296 + (w32 (4 * (M18 b30 x2.toNat))))) + 3)).toNat (or32 (M18 b29 (w32 ((w32 (2296 + (w32 (4 * (M18 b30 x2.toNat))))) + 3)).toNat) (shl32 1 (M18 b31 (w32 (x2 + 1)).toNat)))) b33 (w32 (x2 + 1)).toNat))))) + 3)).toNat) (shl32 1 ((up M18 b29 (w32 ((w32 (2296 + (w32 (4 * (M18 b30 x2.toNat))))) + 3)).toNat (or32 (M18 b29 (w32 ((w32 (2296 + (w32 (4 * (M18 b30 x2.toNat))))) + 3)).toNat) (shl32 1 (M18 b31 (w32 (x2 + 1)).toNat)))) b34 x2.toNat))))
                                  else none
                                else none
                            else none
                          else none
                    else none
                  else none
              else none
            else none := (Run_EE K tb_Mo_aCouple [92] 500 92 _ _ S M).trans rfl
set_option maxRecDepth 100000 in
theorem b_Mo_nationTo_0 (K : Cal) (a0 : Nat) (x1 : Int) (S : Sp) (M : Mm) : Run K tb_Mo_nationTo 0 [vR 12 0 a0, vI x1] [] S M =
  bR (refOf S a0 0) fun b1 =>
  bndI (K m_Mo_oldOne [vR 12 0 a0, vI 96, vI (M b1 2288), vI x1] S M) fun r2 S2 M2 =>
    some (some (vI (r2 % 2)), S2, M2) := (Run_EE K tb_Mo_nationTo [] 500 0 _ _ S M).trans rfl
set_option maxRecDepth 100000 in
theorem b_Mo_oldOne_0 (K : Cal) (a0 : Nat) (x1 : Int) (x2 : Int) (x3 : Int) (S : Sp) (M : Mm) : Run K tb_Mo_oldOne 0 [vR 12 0 a0, vI x1, vI x2, vI x3] [] S M =
  bndI (K m_Mo_isName [vR 12 0 a0, vR 13 1 2] S M) fun r1 S1 M1 =>
  if r1 = 0 then
    bndI (K m_Mo_fails [vR 12 0 a0, vI 2] S1 M1) fun r2 S2 M2 =>
    some (some (vI (r2 % 2)), S2, M2)
  else
    bR (refOf S1 a0 0) fun b3 =>
    bndI (K m_Mo_findHere [vR 12 0 a0, vI x1, vI x2] S1 M1) fun r4 S4 M4 =>
      if 0 ≤ x3 ∧ x3 < 4004 then
        bR (refOf S4 a0 0) fun b5 =>
        if 0 ≤ x3 ∧ x3 < 4004 then
            if (up M4 b3 x3.toNat r4) b5 x3.toNat = (-1) then
              bndI (K m_Mo_fails [vR 12 0 a0, vI 3] S4 (up M4 b3 x3.toNat r4)) fun r6 S6 M6 =>
              some (some (vI (r6 % 2)), S6, M6)
            else
              bndV (K m_Mo_ahead [vR 12 0 a0] S4 (up M4 b3 x3.toNat r4)) fun S7 M7 =>
              some (some (vI 1), S7, M7)
          else none
      else none := (Run_EE K tb_Mo_oldOne [] 500 0 _ _ S M).trans rfl
set_option maxRecDepth 100000 in
theorem b_Mo_portTo_0 (K : Cal) (a0 : Nat) (x1 : Int) (S : Sp) (M : Mm) : Run K tb_Mo_portTo 0 [vR 12 0 a0, vI x1] [] S M =
  bR (refOf S a0 0) fun b1 =>
  bndI (K m_Mo_oldOne [vR 12 0 a0, vI 110, vI (M b1 2290), vI x1] S M) fun r2 S2 M2 =>
    some (some (vI (r2 % 2)), S2, M2) := (Run_EE K tb_Mo_portTo [] 500 0 _ _ S M).trans rfl
set_option maxRecDepth 100000 in
theorem b_Mo_wantWord_0 (K : Cal) (a0 : Nat) (a1 : Nat) (n1 : Int) (x2 : Int) (S : Sp) (M : Mm) : Run K tb_Mo_wantWord 0 [vR 12 0 a0, vR 13 n1 a1, vI x2] [] S M =
  bndI (K m_Mo_inWords [vR 12 0 a0, vR 13 n1 a1] S M) fun r1 S1 M1 =>
  if r1 = x2 then
    bndV (K m_Mo_ahead [vR 12 0 a0] S1 M1) fun S2 M2 =>
    some (some (vI 1), S2, M2)
  else
    bndI (K m_Mo_fails [vR 12 0 a0, vI 2] S1 M1) fun r3 S3 M3 =>
    some (some (vI (r3 % 2)), S3, M3) := (Run_EE K tb_Mo_wantWord [] 500 0 _ _ S M).trans rfl
set_option maxRecDepth 100000 in
theorem b_Mo_aGood_0 (K : Cal) (a0 : Nat) (S : Sp) (M : Mm) : Run K tb_Mo_aGood 0 [vR 12 0 a0, vU] [] S M =
  bR (refOf S a0 0) fun b1 =>
  bndI (K m_Mo_newOne [vR 12 0 a0, vI 1, vI 8, vI 6] S M) fun r2 S2 M2 =>
    if r2 = 0 then
      some (some (vI 0), S2, M2)
    else
      bndI (K m_Mo_wantWord [vR 12 0 a0, vR 13 1 2, vI 12] S2 M2) fun r3 S3 M3 =>
      if r3 = 0 then
        some (some (vI 0), S3, M3)
      else
        bndI (K m_Mo_nationTo [vR 12 0 a0, vI (w32 (2320 + (w32 (3 * (M b1 2289)))))] S3 M3) fun r4 S4 M4 =>
        if r4 = 0 then
          some (some (vI 0), S4, M4)
        else
          bndI (K m_Mo_wantWord [vR 12 0 a0, vR 13 1 2, vI 13] S4 M4) fun r5 S5 M5 =>
          if r5 = 0 then
            some (some (vI 0), S5, M5)
          else
            bndI (K m_Mo_number [vR 12 0 a0, vI (w32 ((w32 (2320 + (w32 (3 * (M b1 2289))))) + 1)), vI 1, vI 99] S5 M5) fun r6 S6 M6 =>
            if r6 = 0 then
              some (some (vI 0), S6, M6)
            else
              bndI (K m_Mo_isThere [vR 12 0 a0, vI 14] S6 M6) fun r7 S7 M7 =>
              if r7 = 0 then
                bR (refOf S7 a0 0) fun b8 =>
                some (some (vI 1), S7, up M7 b8 2289 (w32 ((M7 b8 2289) + 1)))
              else
                bndI (K m_Mo_number [vR 12 0 a0, vI (w32 ((w32 (2320 + (w32 (3 * (M b1 2289))))) + 2)), vI 0, vI 9] S7 M7) fun r9 S9 M9 =>
                if r9 = 0 then
                  some (some (vI 0), S9, M9)
                else
                  bR (refOf S9 a0 0) fun b10 =>
                  some (some (vI 1), S9, up M9 b10 2289 (w32 ((M9 b10 2289) + 1))) := (Run_EE K tb_Mo_aGood [] 500 0 _ _ S M).trans rfl
set_option maxRecDepth 100000 in
theorem b_Mo_aPort_0 (K : Cal) (a0 : Nat) (S : Sp) (M : Mm) : Run K tb_Mo_aPort 0 [vR 12 0 a0, vU] [] S M =
  bR (refOf S a0 0) fun b1 =>
  bndI (K m_Mo_newOne [vR 12 0 a0, vI 2, vI 6, vI 14] S M) fun r2 S2 M2 =>
    if r2 = 0 then
      some (some (vI 0), S2, M2)
    else
      bR (refOf S2 a0 0) fun b3 =>
      if 0 ≤ w32 (2344 + (w32 (15 * (M b1 2290)))) ∧ w32 (2344 + (w32 (15 * (M b1 2290)))) < 4004 then
          bndI (K m_Mo_isThere [vR 12 0 a0, vI 12] S2 (up M2 b3 (w32 (2344 + (w32 (15 * (M b1 2290))))).toNat (-1))) fun r4 S4 M4 =>
          if r4 = 0 then
            bR (refOf S4 a0 0) fun b5 =>
            some (some (vI 1), S4, up M4 b5 2290 (w32 ((M4 b5 2290) + 1)))
          else
            bndI (K m_Mo_nationTo [vR 12 0 a0, vI (w32 (2344 + (w32 (15 * (M b1 2290)))))] S4 M4) fun r6 S6 M6 =>
            if r6 = 0 then
              some (some (vI 0), S6, M6)
            else
              bR (refOf S6 a0 0) fun b7 =>
              some (some (vI 1), S6, up M6 b7 2290 (w32 ((M6 b7 2290) + 1)))
        else none := (Run_EE K tb_Mo_aPort [] 500 0 _ _ S M).trans rfl
set_option maxRecDepth 100000 in
theorem b_Mo_aPrice_0 (K : Cal) (a0 : Nat) (S : Sp) (M : Mm) : Run K tb_Mo_aPrice 0 [vR 12 0 a0, vU] [] S M =
  bndV (K m_Mo_ahead [vR 12 0 a0] S M) fun S1 M1 =>
  bndI (K m_Mo_portTo [vR 12 0 a0, vI 2854] S1 M1) fun r2 S2 M2 =>
  if r2 = 0 then
    some (some (vI 0), S2, M2)
  else
    bndI (K m_Mo_goodTo [vR 12 0 a0, vI (w32 (2854 + 1))] S2 M2) fun r3 S3 M3 =>
    if r3 = 0 then
      some (some (vI 0), S3, M3)
    else
      bR (refOf S3 a0 0) fun b4 =>
      bR (refOf S3 a0 0) fun b5 =>
        if 0 ≤ w32 (2854 + 1) ∧ w32 (2854 + 1) < 4004 then
            bndI (K m_Mo_number [vR 12 0 a0, vI (w32 ((w32 ((w32 (2344 + (w32 (15 * (M3 b4 2854))))) + 1)) + (M3 b5 (w32 (2854 + 1)).toNat))), vI 1, vI 99] S3 M3) fun r6 S6 M6 =>
            if r6 = 0 then
              some (some (vI 0), S6, M6)
            else
              some (some (vI 1), S6, M6)
          else none := (Run_EE K tb_Mo_aPrice [] 500 0 _ _ S M).trans rfl
set_option maxRecDepth 100000 in
theorem b_Mo_goodTo_0 (K : Cal) (a0 : Nat) (x1 : Int) (S : Sp) (M : Mm) : Run K tb_Mo_goodTo 0 [vR 12 0 a0, vI x1] [] S M =
  bR (refOf S a0 0) fun b1 =>
  bndI (K m_Mo_oldOne [vR 12 0 a0, vI 102, vI (M b1 2289), vI x1] S M) fun r2 S2 M2 =>
    some (some (vI (r2 % 2)), S2, M2) := (Run_EE K tb_Mo_goodTo [] 500 0 _ _ S M).trans rfl
set_option maxRecDepth 100000 in
theorem b_Mo_aShip_0 (K : Cal) (a0 : Nat) (S : Sp) (M : Mm) : Run K tb_Mo_aShip 0 [vR 12 0 a0, vU] [] S M =
  bR (refOf S a0 0) fun b1 =>
  bndI (K m_Mo_newOne [vR 12 0 a0, vI 3, vI 4, vI 20] S M) fun r2 S2 M2 =>
    if r2 = 0 then
      some (some (vI 0), S2, M2)
    else
      bndI (K m_Mo_wantWord [vR 12 0 a0, vR 13 1 2, vI 16] S2 M2) fun r3 S3 M3 =>
      if r3 = 0 then
        some (some (vI 0), S3, M3)
      else
        bndI (K m_Mo_portTo [vR 12 0 a0, vI (w32 (2434 + (w32 (15 * (M b1 2291)))))] S3 M3) fun r4 S4 M4 =>
        if r4 = 0 then
          some (some (vI 0), S4, M4)
        else
          bndI (K m_Mo_wantWord [vR 12 0 a0, vR 13 1 2, vI 17] S4 M4) fun r5 S5 M5 =>
          if r5 = 0 then
            some (some (vI 0), S5, M5)
          else
            bndI (K m_Mo_number [vR 12 0 a0, vI (w32 ((w32 (2434 + (w32 (15 * (M b1 2291))))) + 3)), vI 1, vI 60] S5 M5) fun r6 S6 M6 =>
            if r6 = 0 then
              some (some (vI 0), S6, M6)
            else
              bR (refOf S6 a0 0) fun b7 =>
              if 0 ≤ w32 ((w32 (2434 + (w32 (15 * (M b1 2291))))) + 1) ∧ w32 ((w32 (2434 + (w32 (15 * (M b1 2291))))) + 1) < 4004 then
                  bR (refOf S6 a0 0) fun b8 =>
                  if 0 ≤ w32 ((w32 (2434 + (w32 (15 * (M b1 2291))))) + 4) ∧ w32 ((w32 (2434 + (w32 (15 * (M b1 2291))))) + 4) < 4004 then
                      bndI (K m_Mo_isThere [vR 12 0 a0, vI 18] S6 (up (up M6 b7 (w32 ((w32 (2434 + (w32 (15 * (M b1 2291))))) + 1)).toNat (-1)) b8 (w32 ((w32 (2434 + (w32 (15 * (M b1 2291))))) + 4)).toNat 100)) fun r9 S9 M9 =>
                      if r9 = 0 then
                        bR (refOf S9 a0 0) fun b10 =>
                        some (some (vI 1), S9, up M9 b10 2291 (w32 ((M9 b10 2291) + 1)))
                      else
                        bndI (K m_Mo_number [vR 12 0 a0, vI (w32 ((w32 (2434 + (w32 (15 * (M b1 2291))))) + 4)), vI 0, vI 9999] S9 M9) fun r11 S11 M11 =>
                        if r11 = 0 then
                          some (some (vI 0), S11, M11)
                        else
                          bR (refOf S11 a0 0) fun b12 =>
                          some (some (vI 1), S11, up M11 b12 2291 (w32 ((M11 b12 2291) + 1)))
                    else none
                else none := (Run_EE K tb_Mo_aShip [] 500 0 _ _ S M).trans rfl
set_option maxRecDepth 100000 in
theorem b_Mo_aLoad_0 (K : Cal) (a0 : Nat) (S : Sp) (M : Mm) : Run K tb_Mo_aLoad 0 [vR 12 0 a0, vU, vU, vU, vU] [] S M =
  bndV (K m_Mo_ahead [vR 12 0 a0] S M) fun S1 M1 =>
  bR (refOf S1 a0 0) fun b2 =>
  bndI (K m_Mo_oldOne [vR 12 0 a0, vI 116, vI (M1 b2 2291), vI 2854] S1 M1) fun r3 S3 M3 =>
    if r3 = 0 then
      some (some (vI 0), S3, M3)
    else
      bndI (K m_Mo_goodTo [vR 12 0 a0, vI (w32 (2854 + 1))] S3 M3) fun r4 S4 M4 =>
      if r4 = 0 then
        some (some (vI 0), S4, M4)
      else
        bR (refOf S4 a0 0) fun b5 =>
        bR (refOf S4 a0 0) fun b6 =>
          if 0 ≤ w32 ((w32 (2434 + (w32 (15 * (M4 b5 2854))))) + 3) ∧ w32 ((w32 (2434 + (w32 (15 * (M4 b5 2854))))) + 3) < 4004 then
              Run K tb_Mo_aLoad 64 [vR 12 0 a0, vI 2854, vI (w32 (2434 + (w32 (15 * (M4 b5 2854))))), vI (M4 b6 (w32 ((w32 (2434 + (w32 (15 * (M4 b5 2854))))) + 3)).toNat), vI 0] [] S4 M4
            else none := (Run_EE K tb_Mo_aLoad [64] 500 0 _ _ S M).trans rfl
set_option maxRecDepth 100000 in
theorem b_Mo_aLoad_64 (K : Cal) (a0 : Nat) (x1 : Int) (x2 : Int) (x3 : Int) (x4 : Int) (S : Sp) (M : Mm) : Run K tb_Mo_aLoad 64 [vR 12 0 a0, vI x1, vI x2, vI x3, vI x4] [] S M =
  if x4 < 8 then
    bR (refOf S a0 0) fun b1 =>
    if 0 ≤ w32 ((w32 (x2 + 7)) + x4) ∧ w32 ((w32 (x2 + 7)) + x4) < 4004 then
        Run K tb_Mo_aLoad 64 [vR 12 0 a0, vI x1, vI x2, vI (w32 (x3 - (M b1 (w32 ((w32 (x2 + 7)) + x4)).toNat))), vI (w32 (x4 + 1))] [] S M
      else none
  else
    bndI (K m_Mo_number [vR 12 0 a0, vI (w32 (x1 + 2)), vI 1, vI x3] S M) fun r2 S2 M2 =>
    if r2 = 0 then
      some (some (vI 0), S2, M2)
    else
      bR (refOf S2 a0 0) fun b3 =>
      bR (refOf S2 a0 0) fun b4 =>
        if 0 ≤ w32 (x1 + 1) ∧ w32 (x1 + 1) < 4004 then
            if 0 ≤ w32 ((w32 (x2 + 7)) + (M2 b4 (w32 (x1 + 1)).toNat)) ∧ w32 ((w32 (x2 + 7)) + (M2 b4 (w32 (x1 + 1)).toNat)) < 4004 then
              bR (refOf S2 a0 0) fun b5 =>
              if 0 ≤ w32 (x1 + 2) ∧ w32 (x1 + 2) < 4004 then
                  if 0 ≤ w32 ((w32 (x2 + 7)) + (M2 b4 (w32 (x1 + 1)).toNat)) ∧ w32 ((w32 (x2 + 7)) + (M2 b4 (w32 (x1 + 1)).toNat)) < 4004 then
                    some (some (vI 1), S2, up M2 b3 (w32 ((w32 (x2 + 7)) + (M2 b4 (w32 (x1 + 1)).toNat))).toNat (w32 ((M2 b3 (w32 ((w32 (x2 + 7)) + (M2 b4 (w32 (x1 + 1)).toNat))).toNat) + (M2 b5 (w32 (x1 + 2)).toNat))))
                  else none
                else none
            else none
          else none := (Run_EE K tb_Mo_aLoad [64] 500 64 _ _ S M).trans rfl
set_option maxRecDepth 100000 in
theorem b_Mo_wantSign_0 (K : Cal) (a0 : Nat) (x1 : Int) (S : Sp) (M : Mm) : Run K tb_Mo_wantSign 0 [vR 12 0 a0, vI x1] [] S M =
  bndI (K m_Mo_isSign [vR 12 0 a0, vI x1] S M) fun r1 S1 M1 =>
  if r1 = 0 then
    bndI (K m_Mo_fails [vR 12 0 a0, vI 2] S1 M1) fun r2 S2 M2 =>
    some (some (vI (r2 % 2)), S2, M2)
  else
    bndV (K m_Mo_ahead [vR 12 0 a0] S1 M1) fun S3 M3 =>
    some (some (vI 1), S3, M3) := (Run_EE K tb_Mo_wantSign [] 500 0 _ _ S M).trans rfl
set_option maxRecDepth 100000 in
theorem b_Mo_isSign_0 (K : Cal) (a0 : Nat) (x1 : Int) (S : Sp) (M : Mm) : Run K tb_Mo_isSign 0 [vR 12 0 a0, vI x1] [] S M =
  if M a0 12 = 4 then
    if M a0 15 = x1 then
      some (some (vI 1), S, M)
    else
      some (some (vI 0), S, M)
  else
    some (some (vI 0), S, M) := (Run_EE K tb_Mo_isSign [] 500 0 _ _ S M).trans rfl
set_option maxRecDepth 100000 in
theorem b_Mo_taken_0 (K : Cal) (a0 : Nat) (x1 : Int) (S : Sp) (M : Mm) : Run K tb_Mo_taken 0 [vR 12 0 a0, vI x1] [] S M =
  if 0 < (up M a0 16 (M a0 18)) a0 18 then
    bndI (K m_Mo_refuse [vR 12 0 a0, vI 9] S (up M a0 16 (M a0 18))) fun r1 S1 M1 =>
    some (some (vI r1), S1, M1)
  else
    bndI (K m_Mo_gives [vR 12 0 a0, vI x1] S (up M a0 16 (M a0 18))) fun r2 S2 M2 =>
    some (some (vI r2), S2, M2) := (Run_EE K tb_Mo_taken [] 500 0 _ _ S M).trans rfl
set_option maxRecDepth 100000 in
theorem b_Mo_gives_0 (K : Cal) (a0 : Nat) (x1 : Int) (S : Sp) (M : Mm) : Run K tb_Mo_gives 0 [vR 12 0 a0, vI x1] [] S M =
  some (some (vI x1), S, up M a0 2 0) := (Run_EE K tb_Mo_gives [] 500 0 _ _ S M).trans rfl
set_option maxRecDepth 100000 in
theorem b_Mo_voyages_0 (K : Cal) (a0 : Nat) (x1 : Int) (S : Sp) (M : Mm) : Run K tb_Mo_voyages 0 [vR 12 0 a0, vI x1, vU, vU] [] S M =
  bndI (K m_Mo_begins [vR 12 0 a0, vI x1, vI 300] S M) fun r1 S1 M1 =>
  if r1 = 0 then
    bndI (K m_Mo_refuse [vR 12 0 a0, vI 1] S1 M1) fun r2 S2 M2 =>
    some (some (vI r2), S2, M2)
  else
    bR (refOf S1 a0 0) fun b3 =>
    Run K tb_Mo_voyages 38 [vR 12 0 a0, vI x1, vI 1, vU] [] S1 (up (up (up M1 b3 2294 0) a0 22 0) a0 23 0) := (Run_EE K tb_Mo_voyages [38, 103] 500 0 _ _ S M).trans rfl
set_option maxRecDepth 100000 in
theorem b_Mo_voyages_38 (K : Cal) (a0 : Nat) (x1 : Int) (x2 : Int) (d3 : AV) (S : Sp) (M : Mm) : Run K tb_Mo_voyages 38 [vR 12 0 a0, vI x1, vI x2, d3] [] S M =
  if x2 = 0 then
    if M a0 18 = 0 then
      if 0 < M a0 22 then
        bndI (K m_Mo_fails [vR 12 0 a0, vI 2] S M) fun r1 S1 M1 =>
        if M1 a0 18 = 0 then
          bR (refOf S1 a0 0) fun b2 =>
          bR (refOf S1 a0 0) fun b3 =>
            Run K tb_Mo_voyages 103 [vR 12 0 a0, vI x1, vI x2, vI 206] [] S1 (up M1 b2 6 (M1 b3 2294))
        else
          bndI (K m_Mo_taken [vR 12 0 a0, vI (M1 a0 23)] S1 M1) fun r4 S4 M4 =>
          some (some (vI r4), S4, M4)
      else
        if M a0 18 = 0 then
          bR (refOf S a0 0) fun b5 =>
          bR (refOf S a0 0) fun b6 =>
            Run K tb_Mo_voyages 103 [vR 12 0 a0, vI x1, vI x2, vI 206] [] S (up M b5 6 (M b6 2294))
        else
          bndI (K m_Mo_taken [vR 12 0 a0, vI (M a0 23)] S M) fun r7 S7 M7 =>
          some (some (vI r7), S7, M7)
    else
      if M a0 18 = 0 then
        bR (refOf S a0 0) fun b8 =>
        bR (refOf S a0 0) fun b9 =>
          Run K tb_Mo_voyages 103 [vR 12 0 a0, vI x1, vI x2, vI 206] [] S (up M b8 6 (M b9 2294))
      else
        bndI (K m_Mo_taken [vR 12 0 a0, vI (M a0 23)] S M) fun r10 S10 M10 =>
        some (some (vI r10), S10, M10)
  else
    if M a0 12 = 0 then
      if M a0 18 = 0 then
        if 0 < M a0 22 then
          bndI (K m_Mo_fails [vR 12 0 a0, vI 2] S M) fun r11 S11 M11 =>
          if M11 a0 18 = 0 then
            bR (refOf S11 a0 0) fun b12 =>
            bR (refOf S11 a0 0) fun b13 =>
              Run K tb_Mo_voyages 103 [vR 12 0 a0, vI x1, vI x2, vI 206] [] S11 (up M11 b12 6 (M11 b13 2294))
          else
            bndI (K m_Mo_taken [vR 12 0 a0, vI (M11 a0 23)] S11 M11) fun r14 S14 M14 =>
            some (some (vI r14), S14, M14)
        else
          if M a0 18 = 0 then
            bR (refOf S a0 0) fun b15 =>
            bR (refOf S a0 0) fun b16 =>
              Run K tb_Mo_voyages 103 [vR 12 0 a0, vI x1, vI x2, vI 206] [] S (up M b15 6 (M b16 2294))
          else
            bndI (K m_Mo_taken [vR 12 0 a0, vI (M a0 23)] S M) fun r17 S17 M17 =>
            some (some (vI r17), S17, M17)
      else
        if M a0 18 = 0 then
          bR (refOf S a0 0) fun b18 =>
          bR (refOf S a0 0) fun b19 =>
            Run K tb_Mo_voyages 103 [vR 12 0 a0, vI x1, vI x2, vI 206] [] S (up M b18 6 (M b19 2294))
        else
          bndI (K m_Mo_taken [vR 12 0 a0, vI (M a0 23)] S M) fun r20 S20 M20 =>
          some (some (vI r20), S20, M20)
    else
      bndI (K m_Mo_voyageStep [vR 12 0 a0] S M) fun r21 S21 M21 =>
      Run K tb_Mo_voyages 38 [vR 12 0 a0, vI x1, vI r21, d3] [] S21 M21 := (Run_EE K tb_Mo_voyages [38, 103] 500 38 _ _ S M).trans rfl
set_option maxRecDepth 100000 in
theorem b_Mo_voyages_103 (K : Cal) (a0 : Nat) (x1 : Int) (x2 : Int) (x3 : Int) (S : Sp) (M : Mm) : Run K tb_Mo_voyages 103 [vR 12 0 a0, vI x1, vI x2, vI x3] [] S M =
  if x3 < 566 then
    bR (refOf S a0 0) fun b1 =>
    bR (refOf S a0 0) fun b2 =>
      if 0 ≤ w32 (2288 + x3) ∧ w32 (2288 + x3) < 4004 then
          if 0 ≤ x3 ∧ x3 < 4004 then
            Run K tb_Mo_voyages 103 [vR 12 0 a0, vI x1, vI x2, vI (w32 (x3 + 1))] [] S (up M b1 x3.toNat (M b2 (w32 (2288 + x3)).toNat))
          else none
        else none
  else
    bndI (K m_Mo_taken [vR 12 0 a0, vI (M a0 23)] S M) fun r3 S3 M3 =>
    some (some (vI r3), S3, M3) := (Run_EE K tb_Mo_voyages [38, 103] 500 103 _ _ S M).trans rfl
set_option maxRecDepth 100000 in
theorem b_Mo_voyageStep_0 (K : Cal) (a0 : Nat) (S : Sp) (M : Mm) : Run K tb_Mo_voyageStep 0 [vR 12 0 a0, vU, vU, vU, vU, vU] [] S M =
  bndI (K m_Mo_inWords [vR 12 0 a0, vR 13 1 2] S M) fun r1 S1 M1 =>
  bR (refOf S1 a0 0) fun b2 =>
  if r1 = 25 then
      if r1 < 19 then
        bndI (K m_Mo_fails [vR 12 0 a0, vI 2] S1 M1) fun r3 S3 M3 =>
        some (some (vI (r3 % 2)), S3, M3)
      else
        if 28 < r1 then
          bndI (K m_Mo_fails [vR 12 0 a0, vI 2] S1 M1) fun r4 S4 M4 =>
          some (some (vI (r4 % 2)), S4, M4)
        else
          if r1 = 27 then
            if M1 a0 22 = 0 then
              bndI (K m_Mo_fails [vR 12 0 a0, vI 2] S1 M1) fun r5 S5 M5 =>
              some (some (vI (r5 % 2)), S5, M5)
            else
              Run K tb_Mo_voyageStep 75 [vR 12 0 a0, vI r1, vI (M1 b2 2294), vI (w32 (2494 + (w32 (6 * (M1 b2 2294))))), vI 1, vU] [] S1 M1
          else
            Run K tb_Mo_voyageStep 75 [vR 12 0 a0, vI r1, vI (M1 b2 2294), vI (w32 (2494 + (w32 (6 * (M1 b2 2294))))), vI 1, vU] [] S1 M1
    else
      if r1 = 26 then
        if r1 < 19 then
          bndI (K m_Mo_fails [vR 12 0 a0, vI 2] S1 M1) fun r6 S6 M6 =>
          some (some (vI (r6 % 2)), S6, M6)
        else
          if 28 < r1 then
            bndI (K m_Mo_fails [vR 12 0 a0, vI 2] S1 M1) fun r7 S7 M7 =>
            some (some (vI (r7 % 2)), S7, M7)
          else
            if r1 = 27 then
              if M1 a0 22 = 0 then
                bndI (K m_Mo_fails [vR 12 0 a0, vI 2] S1 M1) fun r8 S8 M8 =>
                some (some (vI (r8 % 2)), S8, M8)
              else
                Run K tb_Mo_voyageStep 75 [vR 12 0 a0, vI r1, vI (M1 b2 2294), vI (w32 (2494 + (w32 (6 * (M1 b2 2294))))), vI 1, vU] [] S1 M1
            else
              Run K tb_Mo_voyageStep 75 [vR 12 0 a0, vI r1, vI (M1 b2 2294), vI (w32 (2494 + (w32 (6 * (M1 b2 2294))))), vI 1, vU] [] S1 M1
      else
        if r1 < 19 then
          bndI (K m_Mo_fails [vR 12 0 a0, vI 2] S1 M1) fun r9 S9 M9 =>
          some (some (vI (r9 % 2)), S9, M9)
        else
          if 28 < r1 then
            bndI (K m_Mo_fails [vR 12 0 a0, vI 2] S1 M1) fun r10 S10 M10 =>
            some (some (vI (r10 % 2)), S10, M10)
          else
            if r1 = 27 then
              if M1 a0 22 = 0 then
                bndI (K m_Mo_fails [vR 12 0 a0, vI 2] S1 M1) fun r11 S11 M11 =>
                some (some (vI (r11 % 2)), S11, M11)
              else
                Run K tb_Mo_voyageStep 75 [vR 12 0 a0, vI r1, vI (M1 b2 2294), vI (w32 (2494 + (w32 (6 * (M1 b2 2294))))), vI 0, vU] [] S1 M1
            else
              Run K tb_Mo_voyageStep 75 [vR 12 0 a0, vI r1, vI (M1 b2 2294), vI (w32 (2494 + (w32 (6 * (M1 b2 2294))))), vI 0, vU] [] S1 M1 := (Run_EE K tb_Mo_voyageStep [75, 147] 500 0 _ _ S M).trans rfl
set_option maxRecDepth 100000 in
theorem b_Mo_voyageStep_75 (K : Cal) (a0 : Nat) (x1 : Int) (x2 : Int) (x3 : Int) (x4 : Int) (d5 : AV) (S : Sp) (M : Mm) : Run K tb_Mo_voyageStep 75 [vR 12 0 a0, vI x1, vI x2, vI x3, vI x4, d5] [] S M =
  if x1 = 27 then
    if x4 = 0 then
      if x1 = 27 then
        bR (refOf S a0 0) fun b1 =>
        if 0 ≤ x3 ∧ x3 < 4004 then
            Run K tb_Mo_voyageStep 147 [vR 12 0 a0, vI x1, vI x2, vI x3, vI x4, vI 1] [] S (up (up M a0 23 (w32 ((M a0 23) + 0))) b1 x3.toNat x1)
          else none
      else
        bR (refOf S a0 0) fun b2 =>
        if 0 ≤ x3 ∧ x3 < 4004 then
            Run K tb_Mo_voyageStep 147 [vR 12 0 a0, vI x1, vI x2, vI x3, vI x4, vI 1] [] S (up (up M a0 23 (w32 ((M a0 23) + 1))) b2 x3.toNat x1)
          else none
    else
      if M a0 22 = 3 then
        bndI (K m_Mo_fails [vR 12 0 a0, vI 7] S M) fun r3 S3 M3 =>
        some (some (vI (r3 % 2)), S3, M3)
      else
        if x1 = 27 then
          bR (refOf S a0 0) fun b4 =>
          if 0 ≤ x3 ∧ x3 < 4004 then
              Run K tb_Mo_voyageStep 147 [vR 12 0 a0, vI x1, vI x2, vI x3, vI x4, vI 1] [] S (up (up M a0 23 (w32 ((M a0 23) + 0))) b4 x3.toNat x1)
            else none
        else
          bR (refOf S a0 0) fun b5 =>
          if 0 ≤ x3 ∧ x3 < 4004 then
              Run K tb_Mo_voyageStep 147 [vR 12 0 a0, vI x1, vI x2, vI x3, vI x4, vI 1] [] S (up (up M a0 23 (w32 ((M a0 23) + 1))) b5 x3.toNat x1)
            else none
  else
    if M a0 23 = 30 then
      bndI (K m_Mo_fails [vR 12 0 a0, vI 6] S M) fun r6 S6 M6 =>
      some (some (vI (r6 % 2)), S6, M6)
    else
      if x4 = 0 then
        if x1 = 27 then
          bR (refOf S a0 0) fun b7 =>
          if 0 ≤ x3 ∧ x3 < 4004 then
              Run K tb_Mo_voyageStep 147 [vR 12 0 a0, vI x1, vI x2, vI x3, vI x4, vI 1] [] S (up (up M a0 23 (w32 ((M a0 23) + 0))) b7 x3.toNat x1)
            else none
        else
          bR (refOf S a0 0) fun b8 =>
          if 0 ≤ x3 ∧ x3 < 4004 then
              Run K tb_Mo_voyageStep 147 [vR 12 0 a0, vI x1, vI x2, vI x3, vI x4, vI 1] [] S (up (up M a0 23 (w32 ((M a0 23) + 1))) b8 x3.toNat x1)
            else none
      else
        if M a0 22 = 3 then
          bndI (K m_Mo_fails [vR 12 0 a0, vI 7] S M) fun r9 S9 M9 =>
          some (some (vI (r9 % 2)), S9, M9)
        else
          if x1 = 27 then
            bR (refOf S a0 0) fun b10 =>
            if 0 ≤ x3 ∧ x3 < 4004 then
                Run K tb_Mo_voyageStep 147 [vR 12 0 a0, vI x1, vI x2, vI x3, vI x4, vI 1] [] S (up (up M a0 23 (w32 ((M a0 23) + 0))) b10 x3.toNat x1)
              else none
          else
            bR (refOf S a0 0) fun b11 =>
            if 0 ≤ x3 ∧ x3 < 4004 then
                Run K tb_Mo_voyageStep 147 [vR 12 0 a0, vI x1, vI x2, vI x3, vI x4, vI 1] [] S (up (up M a0 23 (w32 ((M a0 23) + 1))) b11 x3.toNat x1)
              else none := (Run_EE K tb_Mo_voyageStep [75, 147] 500 75 _ _ S M).trans rfl
set_option maxRecDepth 100000 in
theorem b_Mo_voyageStep_147 (K : Cal) (a0 : Nat) (x1 : Int) (x2 : Int) (x3 : Int) (x4 : Int) (x5 : Int) (S : Sp) (M : Mm) : Run K tb_Mo_voyageStep 147 [vR 12 0 a0, vI x1, vI x2, vI x3, vI x4, vI x5] [] S M =
  if x5 < 6 then
    bR (refOf S a0 0) fun b1 =>
    if 0 ≤ w32 (x3 + x5) ∧ w32 (x3 + x5) < 4004 then
        Run K tb_Mo_voyageStep 147 [vR 12 0 a0, vI x1, vI x2, vI x3, vI x4, vI (w32 (x5 + 1))] [] S (up M b1 (w32 (x3 + x5)).toNat 0)
      else none
  else
    bR (refOf S a0 0) fun b2 =>
    bndV (K m_Mo_ahead [vR 12 0 a0] S (up M b2 2294 (w32 ((M b2 2294) + 1)))) fun S3 M3 =>
      bndI (K m_Mo_voyageOrder [vR 12 0 a0, vI x1, vI x3] S3 M3) fun r4 S4 M4 =>
      if r4 = 0 then
        some (some (vI 0), S4, M4)
      else
        if x4 = 0 then
          if x1 = 27 then
            bR (refOf S4 a0 0) fun b5 =>
            bR (refOf S4 a0 21) fun b6 =>
              if 0 ≤ (up M4 a0 22 (w32 ((M4 a0 22) - 1))) a0 22 ∧ (up M4 a0 22 (w32 ((M4 a0 22) - 1))) a0 22 < 3 then
                  if 0 ≤ w32 (x3 + 4) ∧ w32 (x3 + 4) < 4004 then
                    bR (refOf S4 a0 0) fun b7 =>
                    bR (refOf S4 a0 21) fun b8 =>
                      if 0 ≤ (up (up M4 a0 22 (w32 ((M4 a0 22) - 1))) b5 (w32 (x3 + 4)).toNat ((up M4 a0 22 (w32 ((M4 a0 22) - 1))) b6 ((up M4 a0 22 (w32 ((M4 a0 22) - 1))) a0 22).toNat)) a0 22 ∧ (up (up M4 a0 22 (w32 ((M4 a0 22) - 1))) b5 (w32 (x3 + 4)).toNat ((up M4 a0 22 (w32 ((M4 a0 22) - 1))) b6 ((up M4 a0 22 (w32 ((M4 a0 22) - 1))) a0 22).toNat)) a0 22 < 3 then
                          if 0 ≤ w32 ((w32 (2494 + (w32 (6 * ((up (up M4 a0 22 (w32 ((M4 a0 22) - 1))) b5 (w32 (x3 + 4)).toNat ((up M4 a0 22 (w32 ((M4 a0 22) - 1))) b6 ((up M4 a0 22 (w32 ((M4 a0 22) - 1))) a0 22).toNat)) b8 ((up (up M4 a0 22 (w32 ((M4 a0 22) - 1))) b5 (w32 (x3 + 4)).toNat ((up M4 a0 22 (w32 ((M4 a0 22) - 1))) b6 ((up M4 a0 22 (w32 ((M4 a0 22) - 1))) a0 22).toNat)) a0 22).toNat))))) + 4) ∧ w32 ((w32 (2494 + (w32 (6 * ((up (up M4 a0 22 (w32 ((M4 a0 22) - 1))) b5 (w32 (x3 + 4)).toNat ((up M4 a0 22 (w32 ((M4 a0 22) - 1))) b6 ((up M4 a0 22 (w32 ((M4 a0 22) - 1))) a0 22).toNat)) b8 ((up (up M4 a0 22 (w32 ((M4 a0 22) - 1))) b5 (w32 (x3 + 4)).toNat ((up M4 a0 22 (w32 ((M4 a0 22) - 1))) b6 ((up M4 a0 22 (w32 ((M4 a0 22) - 1))) a0 22).toNat)) a0 22).toNat))))) + 4) < 4004 then
                            bndI (K m_Mo_wantSign [vR 12 0 a0, vI 59] S4 (up (up (up M4 a0 22 (w32 ((M4 a0 22) - 1))) b5 (w32 (x3 + 4)).toNat ((up M4 a0 22 (w32 ((M4 a0 22) - 1))) b6 ((up M4 a0 22 (w32 ((M4 a0 22) - 1))) a0 22).toNat)) b7 (w32 ((w32 (2494 + (w32 (6 * ((up (up M4 a0 22 (w32 ((M4 a0 22) - 1))) b5 (w32 (x3 + 4)).toNat ((up M4 a0 22 (w32 ((M4 a0 22) - 1))) b6 ((up M4 a0 22 (w32 ((M4 a0 22) - 1))) a0 22).toNat)) b8 ((up (up M4 a0 22 (w32 ((M4 a0 22) - 1))) b5 (w32 (x3 + 4)).toNat ((up M4 a0 22 (w32 ((M4 a0 22) - 1))) b6 ((up M4 a0 22 (w32 ((M4 a0 22) - 1))) a0 22).toNat)) a0 22).toNat))))) + 4)).toNat x2)) fun r9 S9 M9 =>
                            some (some (vI (r9 % 2)), S9, M9)
                          else none
                        else none
                  else none
                else none
          else
            bndI (K m_Mo_wantSign [vR 12 0 a0, vI 59] S4 M4) fun r10 S10 M10 =>
            some (some (vI (r10 % 2)), S10, M10)
        else
          bR (refOf S4 a0 21) fun b11 =>
          if 0 ≤ M4 a0 22 ∧ M4 a0 22 < 3 then
              if x1 = 27 then
                bR (refOf S4 a0 0) fun b12 =>
                bR (refOf S4 a0 21) fun b13 =>
                  if 0 ≤ (up (up (up M4 b11 (M4 a0 22).toNat x2) a0 22 (w32 (((up M4 b11 (M4 a0 22).toNat x2) a0 22) + 1))) a0 22 (w32 (((up (up M4 b11 (M4 a0 22).toNat x2) a0 22 (w32 (((up M4 b11 (M4 a0 22).toNat x2) a0 22) + 1))) a0 22) - 1))) a0 22 ∧ (up (up (up M4 b11 (M4 a0 22).toNat x2) a0 22 (w32 (((up M4 b11 (M4 a0 22).toNat x2) a0 22) + 1))) a0 22 (w32 (((up (up M4 b11 (M4 a0 22).toNat x2) a0 22 (w32 (((up M4 b11 (M4 a0 22).toNat x2) a0 22) + 1))) a0 22) - 1))) a0 22 < 3 then
                      if 0 ≤ w32 (x3 + 4) ∧ w32 (x3 + 4) < 4004 then
                        bR (refOf S4 a0 0) fun b14 =>
                        bR (refOf S4 a0 21) fun b15 =>
                          if 0 ≤ (up (up (up (up M4 b11 (M4 a0 22).toNat x2) a0 22 (w32 (((up M4 b11 (M4 a0 22).toNat x2) a0 22) + 1))) a0 22 (w32 (((up (up M4 b11 (M4 a0 22).toNat x2) a0 22 (w32 (((up M4 b11 (M4 a0 22).toNat x2) a0 22) + 1))) a0 22) - 1))) b12 (w32 (x3 + 4)).toNat ((up (up (up M4 b11 (M4 a0 22).toNat x2) a0 22 (w32 (((up M4 b11 (M4 a0 22).toNat x2) a0 22) + 1))) a0 22 (w32 (((up (up M4 b11 (M4 a0 22).toNat x2) a0 22 (w32 (((up M4 b11 (M4 a0 22).toNat x2) a0 22) + 1))) a0 22) - 1))) b13 ((up (up (up M4 b11 (M4 a0 22).toNat x2) a0 22 (w32 (((up M4 b11 (M4 a0 22).toNat x2) a0 22) + 1))) a0 22 (w32 (((up (up M4 b11 (M4 a0 22).toNat x2) a0 22 (w32 (((up M4 b11 (M4 a0 22).toNat x2) a0 22) + 1))) a0 22) - 1))) a0 22).toNat)) a0 22 ∧ (up (up (up (up M4 b11 (M4 a0 22).toNat x2) a0 22 (w32 (((up M4 b11 (M4 a0 22).toNat x2) a0 22) + 1))) a0 22 (w32 (((up (up M4 b11 (M4 a0 22).toNat x2) a0 22 (w32 (((up M4 b11 (M4 a0 22).toNat x2) a0 22) + 1))) a0 22) - 1))) b12 (w32 (x3 + 4)).toNat ((up (up (up M4 b11 (M4 a0 22).toNat x2) a0 22 (w32 (((up M4 b11 (M4 a0 22).toNat x2) a0 22) + 1))) a0 22 (w32 (((up (up M4 b11 (M4 a0 22).toNat x2) a0 22 (w32 (((up M4 b11 (M4 a0 22).toNat x2) a0 22) + 1))) a0 22) - 1))) b13 ((up (up (up M4 b11 (M4 a0 22).toNat x2) a0 22 (w32 (((up M4 b11 (M4 a0 22).toNat x2) a0 22) + 1))) a0 22 (w32 (((up (up M4 b11 (M4 a0 22).toNat x2) a0 22 (w32 (((up M4 b11 (M4 a0 22).toNat x2) a0 22) + 1))) a0 22) - 1))) a0 22).toNat)) a0 22 < 3 then
                              if 0 ≤ w32 ((w32 (2494 + (w32 (6 * ((up (up (up (up M4 b11 (M4 a0 22).toNat x2) a0 22 (w32 (((up M4 b11 (M4 a0 22).toNat x2) a0 22) + 1))) a0 22 (w32 (((up (up M4 b11 (M4 a0 22).toNat x2) a0 22 (w32 (((up M4 b11 (M4 a0 22).toNat x2) a0 22) + 1))) a0 22) - 1))) b12 (w32 (x3 + 4)).toNat ((up (up (up M4 b11 (M4 a0 22).toNat x2) a0 22 (w32 (((up M4 b11 (M4 a0 22).toNat x2) a0 22) + 1))) a0 22 (w32 (((up (up M4 b11 (M4 a0 22).toNat x2) a0 22 (w32 (((up M4 b11 (M4 a0 22).toNat x2) a0 22) + 1))) a0 22) - 1))) b13 ((up (up (up M4 b11 (M4 a0 22).toNat x2) a0 22 (w32 (((up M4 b11 (M4 a0 22).toNat x2) a0 22) + 1))) a0 22 (w32 (((up (up M4 b11 (M4 a0 22).toNat x2) a0 22 (w32 (((up M4 b11 (M4 a0 22).toNat x2) a0 22) + 1))) a0 22) - 1))) a0 22).toNat)) b15 ((up (up (up (up M4 b11 (M4 a0 22).toNat x2) a0 22 (w32 (((up M4 b11 (M4 a0 22).toNat x2) a0 22) + 1))) a0 22 (w32 (((up (up M4 b11 (M4 a0 22).toNat x2) a0 22 (w32 (((up M4 b11 (M4 a0 22).toNat x2) a0 22) + 1))) a0 22) - 1))) b12 (w32 (x3 + 4)).toNat ((up (up (up M4 b11 (M4 a0 22).toNat x2) a0 22 (w32 (((up M4 b11 (M4 a0 22).toNat x2) a0 22) + 1))) a0 22 (w32 (((up (up M4 b11 (M4 a0 22).toNat x2) a0 22 (w32 (((up M4 b11 (M4 a0 22).toNat x2) a0 22) + 1))) a0 22) - 1))) b13 ((up (up (up M4 b11 (M4 a0 22).toNat x2) a0 22 (w32 (((up M4 b11 (M4 a0 22).toNat x2) a0 22) + 1))) a0 22 (w32 (((up (up M4 b11 (M4 a0 22).toNat x2) a0 22 (w32 (((up M4 b11 (M4 a0 22).toNat x2) a0 22) + 1))) a0 22) - 1))) a0 22).toNat)) a0 22).toNat))))) + 4) ∧ w32 ((w32 (2494 + (w32 (6 * ((up (up (up (up M4 b11 (M4 a0 22).toNat x2) a0 22 (w32 (((up M4 b11 (M4 a0 22).toNat x2) a0 22) + 1))) a0 22 (w32 (((up (up M4 b11 (M4 a0 22).toNat x2) a0 22 (w32 (((up M4 b11 (M4 a0 22).toNat x2) a0 22) + 1))) a0 22) - 1))) b12 (w32 (x3 + 4)).toNat ((up (up (up M4 b11 (M4 a0 22).toNat x2) a0 22 (w32 (((up M4 b11 (M4 a0 22).toNat x2) a0 22) + 1))) a0 22 (w32 (((up (up M4 b11 (M4 a0 22).toNat x2) a0 22 (w32 (((up M4 b11 (M4 a0 22).toNat x2) a0 22) + 1))) a0 22) - 1))) b13 ((up (up (up M4 b11 (M4 a0 22).toNat x2) a0 22 (w32 (((up M4 b11 (M4 a0 22).toNat x2) a0 22) + 1))) a0 22 (w32 (((up (up M4 b11 (M4 a0 22).toNat x2) a0 22 (w32 (((up M4 b11 (M4 a0 22).toNat x2) a0 22) + 1))) a0 22) - 1))) a0 22).toNat)) b15 ((up (up (up (up M4 b11 (M4 a0 22).toNat x2) a0 22 (w32 (((up M4 b11 (M4 a0 22).toNat x2) a0 22) + 1))) a0 22 (w32 (((up (up M4 b11 (M4 a0 22).toNat x2) a0 22 (w32 (((up M4 b11 (M4 a0 22).toNat x2) a0 22) + 1))) a0 22) - 1))) b12 (w32 (x3 + 4)).toNat ((up (up (up M4 b11 (M4 a0 22).toNat x2) a0 22 (w32 (((up M4 b11 (M4 a0 22).toNat x2) a0 22) + 1))) a0 22 (w32 (((up (up M4 b11 (M4 a0 22).toNat x2) a0 22 (w32 (((up M4 b11 (M4 a0 22).toNat x2) a0 22) + 1))) a0 22) - 1))) b13 ((up (up (up M4 b11 (M4 a0 22).toNat x2) a0 22 (w32 (((up M4 b11 (M4 a0 22).toNat x2) a0 22) + 1))) a0 22 (w32 (((up (up M4 b11 (M4 a0 22).toNat x2) a0 22 (w32 (((up M4 b11 (M4 a0 22).toNat x2) a0 22) + 1))) a0 22) - 1))) a0 22).toNat)) a0 22).toNat))))) + 4) < 4004 then
                                bndI (K m_Mo_wantSign [vR 12 0 a0, vI 59] S4 (up (up (up (up (up M4 b11 (M4 a0 22).toNat x2) a0 22 (w32 (((up M4 b11 (M4 a0 22).toNat x2) a0 22) + 1))) a0 22 (w32 (((up (up M4 b11 (M4 a0 22).toNat x2) a0 22 (w32 (((up M4 b11 (M4 a0 22).toNat x2) a0 22) + 1))) a0 22) - 1))) b12 (w32 (x3 + 4)).toNat ((up (up (up M4 b11 (M4 a0 22).toNat x2) a0 22 (w32 (((up M4 b11 (M4 a0 22).toNat x2) a0 22) + 1))) a0 22 (w32 (((up (up M4 b11 (M4 a0 22).toNat x2) a0 22 (w32 (((up M4 b11 (M4 a0 22).toNat x2) a0 22) + 1))) a0 22) - 1))) b13 ((up (up (up M4 b11 (M4 a0 22).toNat x2) a0 22 (w32 (((up M4 b11 (M4 a0 22).toNat x2) a0 22) + 1))) a0 22 (w32 (((up (up M4 b11 (M4 a0 22).toNat x2) a0 22 (w32 (((up M4 b11 (M4 a0 22).toNat x2) a0 22) + 1))) a0 22) - 1))) a0 22).toNat)) b14 (w32 ((w32 (2494 + (w32 (6 * ((up (up (up (up M4 b11 (M4 a0 22).toNat x2) a0 22 (w32 (((up M4 b11 (M4 a0 22).toNat x2) a0 22) + 1))) a0 22 (w32 (((up (up M4 b11 (M4 a0 22).toNat x2) a0 22 (w32 (((up M4 b11 (M4 a0 22).toNat x2) a0 22) + 1))) a0 22) - 1))) b12 (w32 (x3 + 4)).toNat ((up (up (up M4 b11 (M4 a0 22).toNat x2) a0 22 (w32 (((up M4 b11 (M4 a0 22).toNat x2) a0 22) + 1))) a0 22 (w32 (((up (up M4 b11 (M4 a0 22).toNat x2) a0 22 (w32 (((up M4 b11 (M4 a0 22).toNat x2) a0 22) + 1))) a0 22) - 1))) b13 ((up (up (up M4 b11 (M4 a0 22).toNat x2) a0 22 (w32 (((up M4 b11 (M4 a0 22).toNat x2) a0 22) + 1))) a0 22 (w32 (((up (up M4 b11 (M4 a0 22).toNat x2) a0 22 (w32 (((up M4 b11 (M4 a0 22).toNat x2) a0 22) + 1))) a0 22) - 1))) a0 22).toNat)) b15 ((up (up (up (up M4 b11 (M4 a0 22).toNat x2) a0 22 (w32 (((up M4 b11 (M4 a0 22).toNat x2) a0 22) + 1))) a0 22 (w32 (((up (up M4 b11 (M4 a0 22).toNat x2) a0 22 (w32 (((up M4 b11 (M4 a0 22).toNat x2) a0 22) + 1))) a0 22) - 1))) b12 (w32 (x3 + 4)).toNat ((up (up (up M4 b11 (M4 a0 22).toNat x2) a0 22 (w32 (((up M4 b11 (M4 a0 22).toNat x2) a0 22) + 1))) a0 22 (w32 (((up (up M4 b11 (M4 a0 22).toNat x2) a0 22 (w32 (((up M4 b11 (M4 a0 22).toNat x2) a0 22) + 1))) a0 22) - 1))) b13 ((up (up (up M4 b11 (M4 a0 22).toNat x2) a0 22 (w32 (((up M4 b11 (M4 a0 22).toNat x2) a0 22) + 1))) a0 22 (w32 (((up (up M4 b11 (M4 a0 22).toNat x2) a0 22 (w32 (((up M4 b11 (M4 a0 22).toNat x2) a0 22) + 1))) a0 22) - 1))) a0 22).toNat)) a0 22).toNat))))) + 4)).toNat x2)) fun r16 S16 M16 =>
                                some (some (vI (r16 % 2)), S16, M16)
                              else none
                            else none
                      else none
                    else none
              else
                bndI (K m_Mo_wantSign [vR 12 0 a0, vI 59] S4 (up (up M4 b11 (M4 a0 22).toNat x2) a0 22 (w32 (((up M4 b11 (M4 a0 22).toNat x2) a0 22) + 1)))) fun r17 S17 M17 =>
                some (some (vI (r17 % 2)), S17, M17)
            else none := (Run_EE K tb_Mo_voyageStep [75, 147] 500 147 _ _ S M).trans rfl
set_option maxRecDepth 100000 in
theorem b_Mo_voyageOrder_0 (K : Cal) (a0 : Nat) (x1 : Int) (x2 : Int) (S : Sp) (M : Mm) : Run K tb_Mo_voyageOrder 0 [vR 12 0 a0, vI x1, vI x2] [] S M =
  if x1 = 19 then
    bndI (K m_Mo_number [vR 12 0 a0, vI (w32 (x2 + 1)), vI 1, vI 20] S M) fun r1 S1 M1 =>
    some (some (vI (r1 % 2)), S1, M1)
  else if x1 = 20 then
    bndI (K m_Mo_shipTo [vR 12 0 a0, vI (w32 (x2 + 1))] S M) fun r2 S2 M2 =>
    if r2 = 0 then
      some (some (vI 0), S2, M2)
    else
      bR (refOf S2 a0 0) fun b3 =>
      bndI (K m_Mo_oldOne [vR 12 0 a0, vI 6, vI (M2 b3 1), vI (w32 (x2 + 2))] S2 M2) fun r4 S4 M4 =>
        if r4 = 0 then
          some (some (vI 0), S4, M4)
        else
          bndI (K m_Mo_number [vR 12 0 a0, vI (w32 (x2 + 3)), vI 1, vI 60] S4 M4) fun r5 S5 M5 =>
          if r5 = 0 then
            some (some (vI 0), S5, M5)
          else
            some (some (vI 1), S5, M5)
  else if x1 = 21 then
    bndI (K m_Mo_shipTo [vR 12 0 a0, vI (w32 (x2 + 1))] S M) fun r6 S6 M6 =>
    if r6 = 0 then
      some (some (vI 0), S6, M6)
    else
      bR (refOf S6 a0 0) fun b7 =>
      bndI (K m_Mo_oldOne [vR 12 0 a0, vI 6, vI (M6 b7 1), vI (w32 (x2 + 2))] S6 M6) fun r8 S8 M8 =>
        if r8 = 0 then
          some (some (vI 0), S8, M8)
        else
          bndI (K m_Mo_number [vR 12 0 a0, vI (w32 (x2 + 3)), vI 1, vI 60] S8 M8) fun r9 S9 M9 =>
          if r9 = 0 then
            some (some (vI 0), S9, M9)
          else
            some (some (vI 1), S9, M9)
  else if x1 = 22 then
    bndI (K m_Mo_shipTo [vR 12 0 a0, vI (w32 (x2 + 1))] S M) fun r10 S10 M10 =>
    if r10 = 0 then
      some (some (vI 0), S10, M10)
    else
      bR (refOf S10 a0 0) fun b11 =>
      bndI (K m_Mo_oldOne [vR 12 0 a0, vI 6, vI (M10 b11 1), vI (w32 (x2 + 2))] S10 M10) fun r12 S12 M12 =>
        if r12 = 0 then
          some (some (vI 0), S12, M12)
        else
          bndI (K m_Mo_number [vR 12 0 a0, vI (w32 (x2 + 3)), vI 1, vI 60] S12 M12) fun r13 S13 M13 =>
          if r13 = 0 then
            some (some (vI 0), S13, M13)
          else
            some (some (vI 1), S13, M13)
  else if x1 = 23 then
    bndI (K m_Mo_shipTo [vR 12 0 a0, vI (w32 (x2 + 1))] S M) fun r14 S14 M14 =>
    if r14 = 0 then
      some (some (vI 0), S14, M14)
    else
      bndI (K m_Mo_oldPortTo [vR 12 0 a0, vI (w32 (x2 + 2))] S14 M14) fun r15 S15 M15 =>
      if r15 = 0 then
        some (some (vI 0), S15, M15)
      else
        some (some (vI 1), S15, M15)
  else if x1 = 24 then
    bndI (K m_Mo_shipTo [vR 12 0 a0, vI (w32 (x2 + 1))] S M) fun r16 S16 M16 =>
    some (some (vI (r16 % 2)), S16, M16)
  else if x1 = 25 then
    bndI (K m_Mo_test [vR 12 0 a0, vI x2] S M) fun r17 S17 M17 =>
    some (some (vI (r17 % 2)), S17, M17)
  else if x1 = 26 then
    bndI (K m_Mo_number [vR 12 0 a0, vI (w32 (x2 + 1)), vI 1, vI 99] S M) fun r18 S18 M18 =>
    some (some (vI (r18 % 2)), S18, M18)
  else some (some (vI 1), S, M) := (Run_EE K tb_Mo_voyageOrder [] 500 0 _ _ S M).trans rfl
set_option maxRecDepth 100000 in
theorem b_Mo_shipTo_0 (K : Cal) (a0 : Nat) (x1 : Int) (S : Sp) (M : Mm) : Run K tb_Mo_shipTo 0 [vR 12 0 a0, vI x1] [] S M =
  bR (refOf S a0 0) fun b1 =>
  bndI (K m_Mo_oldOne [vR 12 0 a0, vI 20, vI (M b1 3), vI x1] S M) fun r2 S2 M2 =>
    some (some (vI (r2 % 2)), S2, M2) := (Run_EE K tb_Mo_shipTo [] 500 0 _ _ S M).trans rfl
set_option maxRecDepth 100000 in
theorem b_Mo_oldPortTo_0 (K : Cal) (a0 : Nat) (x1 : Int) (S : Sp) (M : Mm) : Run K tb_Mo_oldPortTo 0 [vR 12 0 a0, vI x1] [] S M =
  bR (refOf S a0 0) fun b1 =>
  bndI (K m_Mo_oldOne [vR 12 0 a0, vI 14, vI (M b1 2), vI x1] S M) fun r2 S2 M2 =>
    some (some (vI (r2 % 2)), S2, M2) := (Run_EE K tb_Mo_oldPortTo [] 500 0 _ _ S M).trans rfl
set_option maxRecDepth 100000 in
theorem b_Mo_test_0 (K : Cal) (a0 : Nat) (x1 : Int) (S : Sp) (M : Mm) : Run K tb_Mo_test 0 [vR 12 0 a0, vI x1, vU] [] S M =
  bndI (K m_Mo_inWords [vR 12 0 a0, vR 13 1 2] S M) fun r1 S1 M1 =>
  if r1 = 29 then
    Run K tb_Mo_test 31 [vR 12 0 a0, vI x1, vI r1] [] S1 M1
  else
    if r1 = 30 then
      Run K tb_Mo_test 31 [vR 12 0 a0, vI x1, vI r1] [] S1 M1
    else
      if r1 = 18 then
        Run K tb_Mo_test 31 [vR 12 0 a0, vI x1, vI r1] [] S1 M1
      else
        bndI (K m_Mo_fails [vR 12 0 a0, vI 2] S1 M1) fun r2 S2 M2 =>
        some (some (vI (r2 % 2)), S2, M2) := (Run_EE K tb_Mo_test [31] 500 0 _ _ S M).trans rfl
set_option maxRecDepth 100000 in
theorem b_Mo_test_31 (K : Cal) (a0 : Nat) (x1 : Int) (x2 : Int) (S : Sp) (M : Mm) : Run K tb_Mo_test 31 [vR 12 0 a0, vI x1, vI x2] [] S M =
  bR (refOf S a0 0) fun b1 =>
  if 0 ≤ x1 ∧ x1 < 4004 then
      bndV (K m_Mo_ahead [vR 12 0 a0] S (up M b1 x1.toNat (w32 (2500 + x2)))) fun S2 M2 =>
      bndI (K m_Mo_shipTo [vR 12 0 a0, vI (w32 (x1 + 1))] S2 M2) fun r3 S3 M3 =>
      if r3 = 0 then
        some (some (vI 0), S3, M3)
      else
        if x2 = 29 then
          bR (refOf S3 a0 0) fun b4 =>
          bndI (K m_Mo_oldOne [vR 12 0 a0, vI 0, vI (M3 b4 0), vI (w32 (x1 + 2))] S3 M3) fun r5 S5 M5 =>
            some (some (vI (r5 % 2)), S5, M5)
        else
          if x2 = 30 then
            bndI (K m_Mo_oldPortTo [vR 12 0 a0, vI (w32 (x1 + 2))] S3 M3) fun r6 S6 M6 =>
            some (some (vI (r6 % 2)), S6, M6)
          else
            bndI (K m_Mo_isSign [vR 12 0 a0, vI 60] S3 M3) fun r7 S7 M7 =>
            if r7 = 0 then
              bndI (K m_Mo_isSign [vR 12 0 a0, vI 62] S7 M7) fun r8 S8 M8 =>
              if r8 = 0 then
                bndI (K m_Mo_isSign [vR 12 0 a0, vI 61] S8 M8) fun r9 S9 M9 =>
                if r9 = 0 then
                  bndI (K m_Mo_fails [vR 12 0 a0, vI 2] S9 M9) fun r10 S10 M10 =>
                  some (some (vI (r10 % 2)), S10, M10)
                else
                  bR (refOf S9 a0 0) fun b11 =>
                  if 0 ≤ w32 (x1 + 5) ∧ w32 (x1 + 5) < 4004 then
                      bndV (K m_Mo_ahead [vR 12 0 a0] S9 (up M9 b11 (w32 (x1 + 5)).toNat (M9 a0 15))) fun S12 M12 =>
                      bndI (K m_Mo_number [vR 12 0 a0, vI (w32 (x1 + 2)), vI 0, vI 9999] S12 M12) fun r13 S13 M13 =>
                      some (some (vI (r13 % 2)), S13, M13)
                    else none
              else
                bR (refOf S8 a0 0) fun b14 =>
                if 0 ≤ w32 (x1 + 5) ∧ w32 (x1 + 5) < 4004 then
                    bndV (K m_Mo_ahead [vR 12 0 a0] S8 (up M8 b14 (w32 (x1 + 5)).toNat (M8 a0 15))) fun S15 M15 =>
                    bndI (K m_Mo_number [vR 12 0 a0, vI (w32 (x1 + 2)), vI 0, vI 9999] S15 M15) fun r16 S16 M16 =>
                    some (some (vI (r16 % 2)), S16, M16)
                  else none
            else
              bR (refOf S7 a0 0) fun b17 =>
              if 0 ≤ w32 (x1 + 5) ∧ w32 (x1 + 5) < 4004 then
                  bndV (K m_Mo_ahead [vR 12 0 a0] S7 (up M7 b17 (w32 (x1 + 5)).toNat (M7 a0 15))) fun S18 M18 =>
                  bndI (K m_Mo_number [vR 12 0 a0, vI (w32 (x1 + 2)), vI 0, vI 9999] S18 M18) fun r19 S19 M19 =>
                  some (some (vI (r19 % 2)), S19, M19)
                else none
    else none := (Run_EE K tb_Mo_test [31] 500 31 _ _ S M).trans rfl
set_option maxRecDepth 100000 in
theorem b_Mo_told_0 (K : Cal) (a0 : Nat) (x1 : Int) (S : Sp) (M : Mm) : Run K tb_Mo_told 0 [vR 12 0 a0, vI x1] [] S M =
  if x1 < 0 then
    bndI (K m_Mo_refuse [vR 12 0 a0, vI 1] S M) fun r1 S1 M1 =>
    some (some (vI r1), S1, M1)
  else
    if 9 < x1 then
      bndI (K m_Mo_refuse [vR 12 0 a0, vI 1] S M) fun r2 S2 M2 =>
      some (some (vI r2), S2, M2)
    else
      if x1 < 6 then
        bR (refOf S a0 0) fun b3 =>
        if 0 ≤ x1 ∧ x1 < 4004 then
            bndI (K m_Mo_gives [vR 12 0 a0, vI (M b3 x1.toNat)] S M) fun r4 S4 M4 =>
            some (some (vI r4), S4, M4)
          else none
      else
        bndI (K m_Mo_ofShips [vR 12 0 a0, vI x1] S M) fun r5 S5 M5 =>
        bndI (K m_Mo_gives [vR 12 0 a0, vI r5] S5 M5) fun r6 S6 M6 =>
        some (some (vI r6), S6, M6) := (Run_EE K tb_Mo_told [] 500 0 _ _ S M).trans rfl
set_option maxRecDepth 100000 in
theorem b_Mo_ofShips_0 (K : Cal) (a0 : Nat) (x1 : Int) (S : Sp) (M : Mm) : Run K tb_Mo_ofShips 0 [vR 12 0 a0, vI x1, vU, vU] [] S M =
  Run K tb_Mo_ofShips 4 [vR 12 0 a0, vI x1, vI 0, vI 0] [] S M := (Run_EE K tb_Mo_ofShips [4, 65] 500 0 _ _ S M).trans rfl
set_option maxRecDepth 100000 in
theorem b_Mo_ofShips_4 (K : Cal) (a0 : Nat) (x1 : Int) (x2 : Int) (x3 : Int) (S : Sp) (M : Mm) : Run K tb_Mo_ofShips 4 [vR 12 0 a0, vI x1, vI x2, vI x3] [] S M =
  bR (refOf S a0 0) fun b1 =>
  if x3 < M b1 3 then
      if x1 = 6 then
        bndI (K m_Mo_shipOf [vR 12 0 a0, vI x3, vI 0] S M) fun r2 S2 M2 =>
        if r2 = (-1) then
          if x1 = 7 then
            bndI (K m_Mo_flagOf [vR 12 0 a0, vI x3] S2 M2) fun r3 S3 M3 =>
            if r3 = (-1) then
              Run K tb_Mo_ofShips 65 [vR 12 0 a0, vI x1, vI (or32 (or32 x2 (shl32 1 x3)) (shl32 1 x3)), vI x3] [] S3 M3
            else
              Run K tb_Mo_ofShips 65 [vR 12 0 a0, vI x1, vI (or32 (or32 x2 (shl32 1 x3)) 0), vI x3] [] S3 M3
          else
            Run K tb_Mo_ofShips 65 [vR 12 0 a0, vI x1, vI (or32 x2 (shl32 1 x3)), vI x3] [] S2 M2
        else
          if x1 = 7 then
            bndI (K m_Mo_flagOf [vR 12 0 a0, vI x3] S2 M2) fun r4 S4 M4 =>
            if r4 = (-1) then
              Run K tb_Mo_ofShips 65 [vR 12 0 a0, vI x1, vI (or32 (or32 x2 0) (shl32 1 x3)), vI x3] [] S4 M4
            else
              Run K tb_Mo_ofShips 65 [vR 12 0 a0, vI x1, vI (or32 (or32 x2 0) 0), vI x3] [] S4 M4
          else
            Run K tb_Mo_ofShips 65 [vR 12 0 a0, vI x1, vI (or32 x2 0), vI x3] [] S2 M2
      else
        if x1 = 7 then
          bndI (K m_Mo_flagOf [vR 12 0 a0, vI x3] S M) fun r5 S5 M5 =>
          if r5 = (-1) then
            Run K tb_Mo_ofShips 65 [vR 12 0 a0, vI x1, vI (or32 x2 (shl32 1 x3)), vI x3] [] S5 M5
          else
            Run K tb_Mo_ofShips 65 [vR 12 0 a0, vI x1, vI (or32 x2 0), vI x3] [] S5 M5
        else
          Run K tb_Mo_ofShips 65 [vR 12 0 a0, vI x1, vI x2, vI x3] [] S M
    else
      some (some (vI x2), S, M) := (Run_EE K tb_Mo_ofShips [4, 65] 500 4 _ _ S M).trans rfl
set_option maxRecDepth 100000 in
theorem b_Mo_ofShips_65 (K : Cal) (a0 : Nat) (x1 : Int) (x2 : Int) (x3 : Int) (S : Sp) (M : Mm) : Run K tb_Mo_ofShips 65 [vR 12 0 a0, vI x1, vI x2, vI x3] [] S M =
  if x1 = 8 then
    bndI (K m_Mo_tonsOf [vR 12 0 a0, vI x3] S M) fun r1 S1 M1 =>
    if x1 = 9 then
      bndI (K m_Mo_shipOf [vR 12 0 a0, vI x3, vI 4] S1 M1) fun r2 S2 M2 =>
      Run K tb_Mo_ofShips 4 [vR 12 0 a0, vI x1, vI (w32 ((w32 (x2 + r1)) + r2)), vI (w32 (x3 + 1))] [] S2 M2
    else
      Run K tb_Mo_ofShips 4 [vR 12 0 a0, vI x1, vI (w32 (x2 + r1)), vI (w32 (x3 + 1))] [] S1 M1
  else
    if x1 = 9 then
      bndI (K m_Mo_shipOf [vR 12 0 a0, vI x3, vI 4] S M) fun r3 S3 M3 =>
      Run K tb_Mo_ofShips 4 [vR 12 0 a0, vI x1, vI (w32 (x2 + r3)), vI (w32 (x3 + 1))] [] S3 M3
    else
      Run K tb_Mo_ofShips 4 [vR 12 0 a0, vI x1, vI x2, vI (w32 (x3 + 1))] [] S M := (Run_EE K tb_Mo_ofShips [4, 65] 500 65 _ _ S M).trans rfl
set_option maxRecDepth 100000 in
theorem b_Mo_shipOf_0 (K : Cal) (a0 : Nat) (x1 : Int) (x2 : Int) (S : Sp) (M : Mm) : Run K tb_Mo_shipOf 0 [vR 12 0 a0, vI x1, vI x2] [] S M =
  bR (refOf S a0 0) fun b1 =>
  bndI (K m_Mo_shipRow [vI x1] S M) fun r2 S2 M2 =>
    if 0 ≤ w32 (r2 + x2) ∧ w32 (r2 + x2) < 4004 then
      some (some (vI (M2 b1 (w32 (r2 + x2)).toNat)), S2, M2)
    else none := (Run_EE K tb_Mo_shipOf [] 500 0 _ _ S M).trans rfl
set_option maxRecDepth 100000 in
theorem b_Mo_shipRow_0 (K : Cal) (x0 : Int) (S : Sp) (M : Mm) : Run K tb_Mo_shipRow 0 [vI x0] [] S M =
  some (some (vI (w32 (146 + (w32 (15 * x0))))), S, M) := (Run_EE K tb_Mo_shipRow [] 500 0 _ _ S M).trans rfl
set_option maxRecDepth 100000 in
theorem b_Mo_flagOf_0 (K : Cal) (a0 : Nat) (x1 : Int) (S : Sp) (M : Mm) : Run K tb_Mo_flagOf 0 [vR 12 0 a0, vI x1] [] S M =
  bndV (K m_Mo_loads [vR 12 0 a0, vI x1] S M) fun S1 M1 =>
  bndI (K m_Mo_flag [vR 12 0 a0] S1 M1) fun r2 S2 M2 =>
  some (some (vI r2), S2, M2) := (Run_EE K tb_Mo_flagOf [] 500 0 _ _ S M).trans rfl
set_option maxRecDepth 100000 in
theorem b_Mo_loads_0 (K : Cal) (a0 : Nat) (x1 : Int) (S : Sp) (M : Mm) : Run K tb_Mo_loads 0 [vR 12 0 a0, vI x1, vU] [] S M =
  Run K tb_Mo_loads 2 [vR 12 0 a0, vI x1, vI 0] [] S M := (Run_EE K tb_Mo_loads [2] 500 0 _ _ S M).trans rfl
set_option maxRecDepth 100000 in
theorem b_Mo_loads_2 (K : Cal) (a0 : Nat) (x1 : Int) (x2 : Int) (S : Sp) (M : Mm) : Run K tb_Mo_loads 2 [vR 12 0 a0, vI x1, vI x2] [] S M =
  if x2 < 8 then
    bR (refOf S a0 24) fun b1 =>
    bndI (K m_Mo_shipOf [vR 12 0 a0, vI x1, vI (w32 (7 + x2))] S M) fun r2 S2 M2 =>
      if 0 ≤ x2 ∧ x2 < 8 then
        Run K tb_Mo_loads 2 [vR 12 0 a0, vI x1, vI (w32 (x2 + 1))] [] S2 (up M2 b1 x2.toNat r2)
      else none
  else
    some (none, S, M) := (Run_EE K tb_Mo_loads [2] 500 2 _ _ S M).trans rfl
set_option maxRecDepth 100000 in
theorem b_Mo_flag_0 (K : Cal) (a0 : Nat) (S : Sp) (M : Mm) : Run K tb_Mo_flag 0 [vR 12 0 a0] [] S M =
  bndI (K m_Mo_captainsNow [vR 12 0 a0] S M) fun r1 S1 M1 =>
  bndI (K m_Mo_onlyOne [vI r1] S1 M1) fun r2 S2 M2 =>
  some (some (vI r2), S2, M2) := (Run_EE K tb_Mo_flag [] 500 0 _ _ S M).trans rfl
set_option maxRecDepth 100000 in
theorem b_Mo_captainsNow_0 (K : Cal) (a0 : Nat) (S : Sp) (M : Mm) : Run K tb_Mo_captainsNow 0 [vR 12 0 a0] [] S M =
  bR (refOf S a0 0) fun b1 =>
  bndI (K m_Mo_captainsBy [vR 12 0 a0, vI (M b1 4)] S M) fun r2 S2 M2 =>
    some (some (vI r2), S2, M2) := (Run_EE K tb_Mo_captainsNow [] 500 0 _ _ S M).trans rfl
set_option maxRecDepth 100000 in
theorem b_Mo_captainsBy_0 (K : Cal) (a0 : Nat) (x1 : Int) (S : Sp) (M : Mm) : Run K tb_Mo_captainsBy 0 [vR 12 0 a0, vI x1, vU, vU, vU] [] S M =
  Run K tb_Mo_captainsBy 4 [vR 12 0 a0, vI x1, vI 0, vI 0, vU] [] S M := (Run_EE K tb_Mo_captainsBy [4, 36] 500 0 _ _ S M).trans rfl
set_option maxRecDepth 100000 in
theorem b_Mo_captainsBy_4 (K : Cal) (a0 : Nat) (x1 : Int) (x2 : Int) (x3 : Int) (d4 : AV) (S : Sp) (M : Mm) : Run K tb_Mo_captainsBy 4 [vR 12 0 a0, vI x1, vI x2, vI x3, d4] [] S M =
  bR (refOf S a0 0) fun b1 =>
  if x3 < M b1 0 then
      bndI (K m_Mo_weightOf [vR 12 0 a0, vI x3, vI x1] S M) fun r2 S2 M2 =>
      Run K tb_Mo_captainsBy 4 [vR 12 0 a0, vI x1, vI (max x2 r2), vI (w32 (x3 + 1)), d4] [] S2 M2
    else
      Run K tb_Mo_captainsBy 36 [vR 12 0 a0, vI x1, vI x2, vI 0, vI 0] [] S M := (Run_EE K tb_Mo_captainsBy [4, 36] 500 4 _ _ S M).trans rfl
set_option maxRecDepth 100000 in
theorem b_Mo_captainsBy_36 (K : Cal) (a0 : Nat) (x1 : Int) (x2 : Int) (x3 : Int) (x4 : Int) (S : Sp) (M : Mm) : Run K tb_Mo_captainsBy 36 [vR 12 0 a0, vI x1, vI x2, vI x3, vI x4] [] S M =
  bR (refOf S a0 0) fun b1 =>
  if x4 < M b1 0 then
      if 0 < x2 then
        bndI (K m_Mo_weightOf [vR 12 0 a0, vI x4, vI x1] S M) fun r2 S2 M2 =>
        if r2 = x2 then
          Run K tb_Mo_captainsBy 36 [vR 12 0 a0, vI x1, vI x2, vI (or32 x3 (shl32 1 x4)), vI (w32 (x4 + 1))] [] S2 M2
        else
          Run K tb_Mo_captainsBy 36 [vR 12 0 a0, vI x1, vI x2, vI (or32 x3 0), vI (w32 (x4 + 1))] [] S2 M2
      else
        some (some (vI x3), S, M)
    else
      some (some (vI x3), S, M) := (Run_EE K tb_Mo_captainsBy [4, 36] 500 36 _ _ S M).trans rfl
set_option maxRecDepth 100000 in
theorem b_Mo_weightOf_0 (K : Cal) (a0 : Nat) (x1 : Int) (x2 : Int) (S : Sp) (M : Mm) : Run K tb_Mo_weightOf 0 [vR 12 0 a0, vI x1, vI x2, vU, vU] [] S M =
  Run K tb_Mo_weightOf 5 [vR 12 0 a0, vI x1, vI x2, vI 0, vI 0] [] S M := (Run_EE K tb_Mo_weightOf [5] 500 0 _ _ S M).trans rfl
set_option maxRecDepth 100000 in
theorem b_Mo_weightOf_5 (K : Cal) (a0 : Nat) (x1 : Int) (x2 : Int) (x3 : Int) (x4 : Int) (S : Sp) (M : Mm) : Run K tb_Mo_weightOf 5 [vR 12 0 a0, vI x1, vI x2, vI x3, vI x4] [] S M =
  bR (refOf S a0 0) fun b1 =>
  if x4 < M b1 1 then
      bR (refOf S a0 0) fun b2 =>
      bndI (K m_Mo_goodRow [vI x4] S M) fun r3 S3 M3 =>
        if 0 ≤ r3 ∧ r3 < 4004 then
          if M3 b2 r3.toNat = x1 then
            bR (refOf S3 a0 24) fun b4 =>
            if 0 ≤ x4 ∧ x4 < 8 then
                if M3 b4 x4.toNat = 0 then
                  Run K tb_Mo_weightOf 5 [vR 12 0 a0, vI x1, vI x2, vI x3, vI (w32 (x4 + 1))] [] S3 M3
                else
                  if x2 = 0 then
                    bR (refOf S3 a0 24) fun b5 =>
                    if 0 ≤ x4 ∧ x4 < 8 then
                        Run K tb_Mo_weightOf 5 [vR 12 0 a0, vI x1, vI x2, vI (w32 (x3 + (M3 b5 x4.toNat))), vI (w32 (x4 + 1))] [] S3 M3
                      else none
                  else
                    if x2 = 1 then
                      Run K tb_Mo_weightOf 5 [vR 12 0 a0, vI x1, vI x2, vI (w32 (x3 + 1)), vI (w32 (x4 + 1))] [] S3 M3
                    else
                      bR (refOf S3 a0 24) fun b6 =>
                      if 0 ≤ x4 ∧ x4 < 8 then
                          bR (refOf S3 a0 0) fun b7 =>
                          bndI (K m_Mo_goodRow [vI x4] S3 M3) fun r8 S8 M8 =>
                            if 0 ≤ w32 (r8 + 1) ∧ w32 (r8 + 1) < 4004 then
                              Run K tb_Mo_weightOf 5 [vR 12 0 a0, vI x1, vI x2, vI (w32 (x3 + (w32 ((M3 b6 x4.toNat) * (M8 b7 (w32 (r8 + 1)).toNat))))), vI (w32 (x4 + 1))] [] S8 M8
                            else none
                        else none
              else none
          else
            Run K tb_Mo_weightOf 5 [vR 12 0 a0, vI x1, vI x2, vI x3, vI (w32 (x4 + 1))] [] S3 M3
        else none
    else
      some (some (vI x3), S, M) := (Run_EE K tb_Mo_weightOf [5] 500 5 _ _ S M).trans rfl
set_option maxRecDepth 100000 in
theorem b_Mo_goodRow_0 (K : Cal) (x0 : Int) (S : Sp) (M : Mm) : Run K tb_Mo_goodRow 0 [vI x0] [] S M =
  some (some (vI (w32 (32 + (w32 (3 * x0))))), S, M) := (Run_EE K tb_Mo_goodRow [] 500 0 _ _ S M).trans rfl
set_option maxRecDepth 100000 in
theorem b_Mo_onlyOne_0 (K : Cal) (x0 : Int) (S : Sp) (M : Mm) : Run K tb_Mo_onlyOne 0 [vI x0] [] S M =
  bndI (K m_Mo_bits [vI x0] S M) fun r1 S1 M1 =>
  if r1 = 1 then
    bndI (K m_Mo_lowest [vI x0] S1 M1) fun r2 S2 M2 =>
    some (some (vI r2), S2, M2)
  else
    some (some (vI (-1)), S1, M1) := (Run_EE K tb_Mo_onlyOne [] 500 0 _ _ S M).trans rfl
set_option maxRecDepth 100000 in
theorem b_Mo_bits_0 (K : Cal) (x0 : Int) (S : Sp) (M : Mm) : Run K tb_Mo_bits 0 [vI x0, vU, vU] [] S M =
  Run K tb_Mo_bits 4 [vI x0, vI 0, vI x0] [] S M := (Run_EE K tb_Mo_bits [4] 500 0 _ _ S M).trans rfl
set_option maxRecDepth 100000 in
theorem b_Mo_bits_4 (K : Cal) (x0 : Int) (x1 : Int) (x2 : Int) (S : Sp) (M : Mm) : Run K tb_Mo_bits 4 [vI x0, vI x1, vI x2] [] S M =
  if x2 = 0 then
    some (some (vI x1), S, M)
  else
    Run K tb_Mo_bits 4 [vI x0, vI (w32 (x1 + 1)), vI (and32 x2 (w32 (x2 - 1)))] [] S M := (Run_EE K tb_Mo_bits [4] 500 4 _ _ S M).trans rfl
set_option maxRecDepth 100000 in
theorem b_Mo_lowest_0 (K : Cal) (x0 : Int) (S : Sp) (M : Mm) : Run K tb_Mo_lowest 0 [vI x0, vU] [] S M =
  Run K tb_Mo_lowest 2 [vI x0, vI 0] [] S M := (Run_EE K tb_Mo_lowest [2] 500 0 _ _ S M).trans rfl
set_option maxRecDepth 100000 in
theorem b_Mo_lowest_2 (K : Cal) (x0 : Int) (x1 : Int) (S : Sp) (M : Mm) : Run K tb_Mo_lowest 2 [vI x0, vI x1] [] S M =
  if and32 (shr32 x0 x1) 1 = 0 then
    Run K tb_Mo_lowest 2 [vI x0, vI (w32 (x1 + 1))] [] S M
  else
    some (some (vI x1), S, M) := (Run_EE K tb_Mo_lowest [2] 500 2 _ _ S M).trans rfl
set_option maxRecDepth 100000 in
theorem b_Mo_tonsOf_0 (K : Cal) (a0 : Nat) (x1 : Int) (S : Sp) (M : Mm) : Run K tb_Mo_tonsOf 0 [vR 12 0 a0, vI x1] [] S M =
  bndV (K m_Mo_loads [vR 12 0 a0, vI x1] S M) fun S1 M1 =>
  bndI (K m_Mo_tons [vR 12 0 a0] S1 M1) fun r2 S2 M2 =>
  some (some (vI r2), S2, M2) := (Run_EE K tb_Mo_tonsOf [] 500 0 _ _ S M).trans rfl
set_option maxRecDepth 100000 in
theorem b_Mo_tons_0 (K : Cal) (a0 : Nat) (S : Sp) (M : Mm) : Run K tb_Mo_tons 0 [vR 12 0 a0, vU, vU] [] S M =
  Run K tb_Mo_tons 4 [vR 12 0 a0, vI 0, vI 0] [] S M := (Run_EE K tb_Mo_tons [4] 500 0 _ _ S M).trans rfl
set_option maxRecDepth 100000 in
theorem b_Mo_tons_4 (K : Cal) (a0 : Nat) (x1 : Int) (x2 : Int) (S : Sp) (M : Mm) : Run K tb_Mo_tons 4 [vR 12 0 a0, vI x1, vI x2] [] S M =
  if x2 < 8 then
    bR (refOf S a0 24) fun b1 =>
    if 0 ≤ x2 ∧ x2 < 8 then
        Run K tb_Mo_tons 4 [vR 12 0 a0, vI (w32 (x1 + (M b1 x2.toNat))), vI (w32 (x2 + 1))] [] S M
      else none
  else
    some (some (vI x1), S, M) := (Run_EE K tb_Mo_tons [4] 500 4 _ _ S M).trans rfl
set_option maxRecDepth 100000 in
theorem b_Mo_nation_0 (K : Cal) (a0 : Nat) (x1 : Int) (x2 : Int) (S : Sp) (M : Mm) : Run K tb_Mo_nation 0 [vR 12 0 a0, vI x1, vI x2] [] S M =
  bndI (K m_Mo_isNation [vR 12 0 a0, vI x1] S M) fun r1 S1 M1 =>
  if r1 = 0 then
    bndI (K m_Mo_refuse [vR 12 0 a0, vI 1] S1 M1) fun r2 S2 M2 =>
    some (some (vI r2), S2, M2)
  else
    if x2 < 0 then
      bndI (K m_Mo_refuse [vR 12 0 a0, vI 1] S1 M1) fun r3 S3 M3 =>
      some (some (vI r3), S3, M3)
    else
      if 3 < x2 then
        bndI (K m_Mo_refuse [vR 12 0 a0, vI 1] S1 M1) fun r4 S4 M4 =>
        some (some (vI r4), S4, M4)
      else
        bR (refOf S1 a0 0) fun b5 =>
        bndI (K m_Mo_nationRow [vI x1] S1 M1) fun r6 S6 M6 =>
          if 0 ≤ w32 (r6 + x2) ∧ w32 (r6 + x2) < 4004 then
            bndI (K m_Mo_gives [vR 12 0 a0, vI (M6 b5 (w32 (r6 + x2)).toNat)] S6 M6) fun r7 S7 M7 =>
            some (some (vI r7), S7, M7)
          else none := (Run_EE K tb_Mo_nation [] 500 0 _ _ S M).trans rfl
set_option maxRecDepth 100000 in
theorem b_Mo_isNation_0 (K : Cal) (a0 : Nat) (x1 : Int) (S : Sp) (M : Mm) : Run K tb_Mo_isNation 0 [vR 12 0 a0, vI x1] [] S M =
  if x1 < 0 then
    some (some (vI 0), S, M)
  else
    bR (refOf S a0 0) fun b1 =>
    if x1 < M b1 0 then
        some (some (vI 1), S, M)
      else
        some (some (vI 0), S, M) := (Run_EE K tb_Mo_isNation [] 500 0 _ _ S M).trans rfl
set_option maxRecDepth 100000 in
theorem b_Mo_nationRow_0 (K : Cal) (x0 : Int) (S : Sp) (M : Mm) : Run K tb_Mo_nationRow 0 [vI x0] [] S M =
  some (some (vI (w32 (8 + (w32 (4 * x0))))), S, M) := (Run_EE K tb_Mo_nationRow [] 500 0 _ _ S M).trans rfl
set_option maxRecDepth 100000 in
theorem b_Mo_good_0 (K : Cal) (a0 : Nat) (x1 : Int) (x2 : Int) (S : Sp) (M : Mm) : Run K tb_Mo_good 0 [vR 12 0 a0, vI x1, vI x2] [] S M =
  bndI (K m_Mo_isGood [vR 12 0 a0, vI x1] S M) fun r1 S1 M1 =>
  if r1 = 0 then
    bndI (K m_Mo_refuse [vR 12 0 a0, vI 1] S1 M1) fun r2 S2 M2 =>
    some (some (vI r2), S2, M2)
  else
    if x2 < 0 then
      bndI (K m_Mo_refuse [vR 12 0 a0, vI 1] S1 M1) fun r3 S3 M3 =>
      some (some (vI r3), S3, M3)
    else
      if 2 < x2 then
        bndI (K m_Mo_refuse [vR 12 0 a0, vI 1] S1 M1) fun r4 S4 M4 =>
        some (some (vI r4), S4, M4)
      else
        bR (refOf S1 a0 0) fun b5 =>
        bndI (K m_Mo_goodRow [vI x1] S1 M1) fun r6 S6 M6 =>
          if 0 ≤ w32 (r6 + x2) ∧ w32 (r6 + x2) < 4004 then
            bndI (K m_Mo_gives [vR 12 0 a0, vI (M6 b5 (w32 (r6 + x2)).toNat)] S6 M6) fun r7 S7 M7 =>
            some (some (vI r7), S7, M7)
          else none := (Run_EE K tb_Mo_good [] 500 0 _ _ S M).trans rfl
set_option maxRecDepth 100000 in
theorem b_Mo_isGood_0 (K : Cal) (a0 : Nat) (x1 : Int) (S : Sp) (M : Mm) : Run K tb_Mo_isGood 0 [vR 12 0 a0, vI x1] [] S M =
  if x1 < 0 then
    some (some (vI 0), S, M)
  else
    bR (refOf S a0 0) fun b1 =>
    if x1 < M b1 1 then
        some (some (vI 1), S, M)
      else
        some (some (vI 0), S, M) := (Run_EE K tb_Mo_isGood [] 500 0 _ _ S M).trans rfl
set_option maxRecDepth 100000 in
theorem b_Mo_portOf_0 (K : Cal) (a0 : Nat) (x1 : Int) (S : Sp) (M : Mm) : Run K tb_Mo_portOf 0 [vR 12 0 a0, vI x1] [] S M =
  bndI (K m_Mo_isPort [vR 12 0 a0, vI x1] S M) fun r1 S1 M1 =>
  if r1 = 0 then
    bndI (K m_Mo_refuse [vR 12 0 a0, vI 1] S1 M1) fun r2 S2 M2 =>
    some (some (vI r2), S2, M2)
  else
    bR (refOf S1 a0 0) fun b3 =>
    bndI (K m_Mo_portRow [vI x1] S1 M1) fun r4 S4 M4 =>
      if 0 ≤ r4 ∧ r4 < 4004 then
        bndI (K m_Mo_orNone [vR 12 0 a0, vI (M4 b3 r4.toNat)] S4 M4) fun r5 S5 M5 =>
        some (some (vI r5), S5, M5)
      else none := (Run_EE K tb_Mo_portOf [] 500 0 _ _ S M).trans rfl
set_option maxRecDepth 100000 in
theorem b_Mo_isPort_0 (K : Cal) (a0 : Nat) (x1 : Int) (S : Sp) (M : Mm) : Run K tb_Mo_isPort 0 [vR 12 0 a0, vI x1] [] S M =
  if x1 < 0 then
    some (some (vI 0), S, M)
  else
    bR (refOf S a0 0) fun b1 =>
    if x1 < M b1 2 then
        some (some (vI 1), S, M)
      else
        some (some (vI 0), S, M) := (Run_EE K tb_Mo_isPort [] 500 0 _ _ S M).trans rfl
set_option maxRecDepth 100000 in
theorem b_Mo_portRow_0 (K : Cal) (x0 : Int) (S : Sp) (M : Mm) : Run K tb_Mo_portRow 0 [vI x0] [] S M =
  some (some (vI (w32 (56 + (w32 (15 * x0))))), S, M) := (Run_EE K tb_Mo_portRow [] 500 0 _ _ S M).trans rfl
set_option maxRecDepth 100000 in
theorem b_Mo_orNone_0 (K : Cal) (a0 : Nat) (x1 : Int) (S : Sp) (M : Mm) : Run K tb_Mo_orNone 0 [vR 12 0 a0, vI x1] [] S M =
  if x1 = (-1) then
    bndI (K m_Mo_refuse [vR 12 0 a0, vI 6] S M) fun r1 S1 M1 =>
    some (some (vI r1), S1, M1)
  else
    bndI (K m_Mo_gives [vR 12 0 a0, vI x1] S M) fun r2 S2 M2 =>
    some (some (vI r2), S2, M2) := (Run_EE K tb_Mo_orNone [] 500 0 _ _ S M).trans rfl
set_option maxRecDepth 100000 in
theorem b_Mo_price_0 (K : Cal) (a0 : Nat) (x1 : Int) (x2 : Int) (S : Sp) (M : Mm) : Run K tb_Mo_price 0 [vR 12 0 a0, vI x1, vI x2] [] S M =
  bndI (K m_Mo_isPort [vR 12 0 a0, vI x1] S M) fun r1 S1 M1 =>
  if r1 = 0 then
    bndI (K m_Mo_refuse [vR 12 0 a0, vI 1] S1 M1) fun r2 S2 M2 =>
    some (some (vI r2), S2, M2)
  else
    bndI (K m_Mo_isGood [vR 12 0 a0, vI x2] S1 M1) fun r3 S3 M3 =>
    if r3 = 0 then
      bndI (K m_Mo_refuse [vR 12 0 a0, vI 1] S3 M3) fun r4 S4 M4 =>
      some (some (vI r4), S4, M4)
    else
      bndI (K m_Mo_priceOf [vR 12 0 a0, vI x1, vI x2] S3 M3) fun r5 S5 M5 =>
      bndI (K m_Mo_orNothing [vR 12 0 a0, vI r5] S5 M5) fun r6 S6 M6 =>
      some (some (vI r6), S6, M6) := (Run_EE K tb_Mo_price [] 500 0 _ _ S M).trans rfl
set_option maxRecDepth 100000 in
theorem b_Mo_priceOf_0 (K : Cal) (a0 : Nat) (x1 : Int) (x2 : Int) (S : Sp) (M : Mm) : Run K tb_Mo_priceOf 0 [vR 12 0 a0, vI x1, vI x2] [] S M =
  bR (refOf S a0 0) fun b1 =>
  bndI (K m_Mo_portRow [vI x1] S M) fun r2 S2 M2 =>
    if 0 ≤ w32 ((w32 (r2 + 1)) + x2) ∧ w32 ((w32 (r2 + 1)) + x2) < 4004 then
      some (some (vI (M2 b1 (w32 ((w32 (r2 + 1)) + x2)).toNat)), S2, M2)
    else none := (Run_EE K tb_Mo_priceOf [] 500 0 _ _ S M).trans rfl
set_option maxRecDepth 100000 in
theorem b_Mo_orNothing_0 (K : Cal) (a0 : Nat) (x1 : Int) (S : Sp) (M : Mm) : Run K tb_Mo_orNothing 0 [vR 12 0 a0, vI x1] [] S M =
  if x1 = 0 then
    bndI (K m_Mo_refuse [vR 12 0 a0, vI 6] S M) fun r1 S1 M1 =>
    some (some (vI r1), S1, M1)
  else
    bndI (K m_Mo_gives [vR 12 0 a0, vI x1] S M) fun r2 S2 M2 =>
    some (some (vI r2), S2, M2) := (Run_EE K tb_Mo_orNothing [] 500 0 _ _ S M).trans rfl
set_option maxRecDepth 100000 in
theorem b_Mo_way_0 (K : Cal) (a0 : Nat) (x1 : Int) (x2 : Int) (S : Sp) (M : Mm) : Run K tb_Mo_way 0 [vR 12 0 a0, vI x1, vI x2] [] S M =
  bndI (K m_Mo_areTwo [vR 12 0 a0, vI x1, vI x2] S M) fun r1 S1 M1 =>
  if r1 = 0 then
    bndI (K m_Mo_refuse [vR 12 0 a0, vI 1] S1 M1) fun r2 S2 M2 =>
    some (some (vI r2), S2, M2)
  else
    bndI (K m_Mo_wayOf [vR 12 0 a0, vI x1, vI x2] S1 M1) fun r3 S3 M3 =>
    bndI (K m_Mo_orNothing [vR 12 0 a0, vI r3] S3 M3) fun r4 S4 M4 =>
    some (some (vI r4), S4, M4) := (Run_EE K tb_Mo_way [] 500 0 _ _ S M).trans rfl
set_option maxRecDepth 100000 in
theorem b_Mo_areTwo_0 (K : Cal) (a0 : Nat) (x1 : Int) (x2 : Int) (S : Sp) (M : Mm) : Run K tb_Mo_areTwo 0 [vR 12 0 a0, vI x1, vI x2] [] S M =
  bndI (K m_Mo_isPort [vR 12 0 a0, vI x1] S M) fun r1 S1 M1 =>
  if r1 = 0 then
    some (some (vI 0), S1, M1)
  else
    bndI (K m_Mo_isPort [vR 12 0 a0, vI x2] S1 M1) fun r2 S2 M2 =>
    if r2 = 0 then
      some (some (vI 0), S2, M2)
    else
      if x1 = x2 then
        some (some (vI 0), S2, M2)
      else
        some (some (vI 1), S2, M2) := (Run_EE K tb_Mo_areTwo [] 500 0 _ _ S M).trans rfl
set_option maxRecDepth 100000 in
theorem b_Mo_wayOf_0 (K : Cal) (a0 : Nat) (x1 : Int) (x2 : Int) (S : Sp) (M : Mm) : Run K tb_Mo_wayOf 0 [vR 12 0 a0, vI x1, vI x2] [] S M =
  bR (refOf S a0 0) fun b1 =>
  bndI (K m_Mo_portRow [vI x1] S M) fun r2 S2 M2 =>
    if 0 ≤ w32 ((w32 (r2 + 9)) + x2) ∧ w32 ((w32 (r2 + 9)) + x2) < 4004 then
      some (some (vI (M2 b1 (w32 ((w32 (r2 + 9)) + x2)).toNat)), S2, M2)
    else none := (Run_EE K tb_Mo_wayOf [] 500 0 _ _ S M).trans rfl
set_option maxRecDepth 100000 in
theorem b_Mo_ship_0 (K : Cal) (a0 : Nat) (x1 : Int) (x2 : Int) (S : Sp) (M : Mm) : Run K tb_Mo_ship 0 [vR 12 0 a0, vI x1, vI x2] [] S M =
  bndI (K m_Mo_isShip [vR 12 0 a0, vI x1] S M) fun r1 S1 M1 =>
  if r1 = 0 then
    bndI (K m_Mo_refuse [vR 12 0 a0, vI 1] S1 M1) fun r2 S2 M2 =>
    some (some (vI r2), S2, M2)
  else
    if x2 < 0 then
      bndI (K m_Mo_refuse [vR 12 0 a0, vI 1] S1 M1) fun r3 S3 M3 =>
      some (some (vI r3), S3, M3)
    else
      if 7 < x2 then
        bndI (K m_Mo_refuse [vR 12 0 a0, vI 1] S1 M1) fun r4 S4 M4 =>
        some (some (vI r4), S4, M4)
      else
        if x2 < 2 then
          bndI (K m_Mo_shipOf [vR 12 0 a0, vI x1, vI x2] S1 M1) fun r5 S5 M5 =>
          bndI (K m_Mo_orNone [vR 12 0 a0, vI r5] S5 M5) fun r6 S6 M6 =>
          some (some (vI r6), S6, M6)
        else
          if x2 = 5 then
            bndI (K m_Mo_tonsOf [vR 12 0 a0, vI x1] S1 M1) fun r7 S7 M7 =>
            bndI (K m_Mo_gives [vR 12 0 a0, vI r7] S7 M7) fun r8 S8 M8 =>
            some (some (vI r8), S8, M8)
          else
            if x2 < 5 then
              bndI (K m_Mo_shipOf [vR 12 0 a0, vI x1, vI x2] S1 M1) fun r9 S9 M9 =>
              bndI (K m_Mo_gives [vR 12 0 a0, vI r9] S9 M9) fun r10 S10 M10 =>
              some (some (vI r10), S10, M10)
            else
              bndI (K m_Mo_shipOf [vR 12 0 a0, vI x1, vI (w32 (x2 - 1))] S1 M1) fun r11 S11 M11 =>
              bndI (K m_Mo_gives [vR 12 0 a0, vI r11] S11 M11) fun r12 S12 M12 =>
              some (some (vI r12), S12, M12) := (Run_EE K tb_Mo_ship [] 500 0 _ _ S M).trans rfl
set_option maxRecDepth 100000 in
theorem b_Mo_isShip_0 (K : Cal) (a0 : Nat) (x1 : Int) (S : Sp) (M : Mm) : Run K tb_Mo_isShip 0 [vR 12 0 a0, vI x1] [] S M =
  if x1 < 0 then
    some (some (vI 0), S, M)
  else
    bR (refOf S a0 0) fun b1 =>
    if x1 < M b1 3 then
        some (some (vI 1), S, M)
      else
        some (some (vI 0), S, M) := (Run_EE K tb_Mo_isShip [] 500 0 _ _ S M).trans rfl
set_option maxRecDepth 100000 in
theorem b_Mo_aboard_0 (K : Cal) (a0 : Nat) (x1 : Int) (x2 : Int) (S : Sp) (M : Mm) : Run K tb_Mo_aboard 0 [vR 12 0 a0, vI x1, vI x2] [] S M =
  bndI (K m_Mo_isShip [vR 12 0 a0, vI x1] S M) fun r1 S1 M1 =>
  if r1 = 0 then
    bndI (K m_Mo_refuse [vR 12 0 a0, vI 1] S1 M1) fun r2 S2 M2 =>
    some (some (vI r2), S2, M2)
  else
    bndI (K m_Mo_isGood [vR 12 0 a0, vI x2] S1 M1) fun r3 S3 M3 =>
    if r3 = 0 then
      bndI (K m_Mo_refuse [vR 12 0 a0, vI 1] S3 M3) fun r4 S4 M4 =>
      some (some (vI r4), S4, M4)
    else
      bndI (K m_Mo_shipOf [vR 12 0 a0, vI x1, vI (w32 (7 + x2))] S3 M3) fun r5 S5 M5 =>
      bndI (K m_Mo_gives [vR 12 0 a0, vI r5] S5 M5) fun r6 S6 M6 =>
      some (some (vI r6), S6, M6) := (Run_EE K tb_Mo_aboard [] 500 0 _ _ S M).trans rfl
set_option maxRecDepth 100000 in
theorem b_Mo_weight_0 (K : Cal) (a0 : Nat) (x1 : Int) (x2 : Int) (S : Sp) (M : Mm) : Run K tb_Mo_weight 0 [vR 12 0 a0, vI x1, vI x2] [] S M =
  bR (refOf S a0 0) fun b1 =>
  bndI (K m_Mo_weightBy [vR 12 0 a0, vI x1, vI x2, vI (M b1 4)] S M) fun r2 S2 M2 =>
    some (some (vI r2), S2, M2) := (Run_EE K tb_Mo_weight [] 500 0 _ _ S M).trans rfl
set_option maxRecDepth 100000 in
theorem b_Mo_weightBy_0 (K : Cal) (a0 : Nat) (x1 : Int) (x2 : Int) (x3 : Int) (S : Sp) (M : Mm) : Run K tb_Mo_weightBy 0 [vR 12 0 a0, vI x1, vI x2, vI x3] [] S M =
  bndI (K m_Mo_isShip [vR 12 0 a0, vI x1] S M) fun r1 S1 M1 =>
  if r1 = 0 then
    bndI (K m_Mo_refuse [vR 12 0 a0, vI 1] S1 M1) fun r2 S2 M2 =>
    some (some (vI r2), S2, M2)
  else
    bndI (K m_Mo_isNation [vR 12 0 a0, vI x2] S1 M1) fun r3 S3 M3 =>
    if r3 = 0 then
      bndI (K m_Mo_refuse [vR 12 0 a0, vI 1] S3 M3) fun r4 S4 M4 =>
      some (some (vI r4), S4, M4)
    else
      bndI (K m_Mo_isRule [vI x3] S3 M3) fun r5 S5 M5 =>
      if r5 = 0 then
        bndI (K m_Mo_refuse [vR 12 0 a0, vI 1] S5 M5) fun r6 S6 M6 =>
        some (some (vI r6), S6, M6)
      else
        bndV (K m_Mo_loads [vR 12 0 a0, vI x1] S5 M5) fun S7 M7 =>
        bndI (K m_Mo_weightOf [vR 12 0 a0, vI x2, vI x3] S7 M7) fun r8 S8 M8 =>
        bndI (K m_Mo_gives [vR 12 0 a0, vI r8] S8 M8) fun r9 S9 M9 =>
        some (some (vI r9), S9, M9) := (Run_EE K tb_Mo_weightBy [] 500 0 _ _ S M).trans rfl
set_option maxRecDepth 100000 in
theorem b_Mo_isRule_0 (K : Cal) (x0 : Int) (S : Sp) (M : Mm) : Run K tb_Mo_isRule 0 [vI x0] [] S M =
  if x0 < 0 then
    some (some (vI 0), S, M)
  else
    if 2 < x0 then
      some (some (vI 0), S, M)
    else
      some (some (vI 1), S, M) := (Run_EE K tb_Mo_isRule [] 500 0 _ _ S M).trans rfl
set_option maxRecDepth 100000 in
theorem b_Mo_captains_0 (K : Cal) (a0 : Nat) (x1 : Int) (S : Sp) (M : Mm) : Run K tb_Mo_captains 0 [vR 12 0 a0, vI x1] [] S M =
  bndI (K m_Mo_isShip [vR 12 0 a0, vI x1] S M) fun r1 S1 M1 =>
  if r1 = 0 then
    bndI (K m_Mo_refuse [vR 12 0 a0, vI 1] S1 M1) fun r2 S2 M2 =>
    some (some (vI r2), S2, M2)
  else
    bR (refOf S1 a0 0) fun b3 =>
    bndI (K m_Mo_captainsOf [vR 12 0 a0, vI x1, vI (M1 b3 4)] S1 M1) fun r4 S4 M4 =>
      bndI (K m_Mo_gives [vR 12 0 a0, vI r4] S4 M4) fun r5 S5 M5 =>
      some (some (vI r5), S5, M5) := (Run_EE K tb_Mo_captains [] 500 0 _ _ S M).trans rfl
set_option maxRecDepth 100000 in
theorem b_Mo_captainsOf_0 (K : Cal) (a0 : Nat) (x1 : Int) (x2 : Int) (S : Sp) (M : Mm) : Run K tb_Mo_captainsOf 0 [vR 12 0 a0, vI x1, vI x2] [] S M =
  bndV (K m_Mo_loads [vR 12 0 a0, vI x1] S M) fun S1 M1 =>
  bndI (K m_Mo_captainsBy [vR 12 0 a0, vI x2] S1 M1) fun r2 S2 M2 =>
  some (some (vI r2), S2, M2) := (Run_EE K tb_Mo_captainsOf [] 500 0 _ _ S M).trans rfl
set_option maxRecDepth 100000 in
theorem b_Mo_ruled_0 (K : Cal) (a0 : Nat) (x1 : Int) (S : Sp) (M : Mm) : Run K tb_Mo_ruled 0 [vR 12 0 a0, vI x1] [] S M =
  bR (refOf S a0 0) fun b1 =>
  bndI (K m_Mo_ruledBy [vR 12 0 a0, vI x1, vI (M b1 4)] S M) fun r2 S2 M2 =>
    some (some (vI r2), S2, M2) := (Run_EE K tb_Mo_ruled [] 500 0 _ _ S M).trans rfl
set_option maxRecDepth 100000 in
theorem b_Mo_ruledBy_0 (K : Cal) (a0 : Nat) (x1 : Int) (x2 : Int) (S : Sp) (M : Mm) : Run K tb_Mo_ruledBy 0 [vR 12 0 a0, vI x1, vI x2] [] S M =
  bndI (K m_Mo_isShip [vR 12 0 a0, vI x1] S M) fun r1 S1 M1 =>
  if r1 = 0 then
    bndI (K m_Mo_refuse [vR 12 0 a0, vI 1] S1 M1) fun r2 S2 M2 =>
    some (some (vI r2), S2, M2)
  else
    bndI (K m_Mo_isRule [vI x2] S1 M1) fun r3 S3 M3 =>
    if r3 = 0 then
      bndI (K m_Mo_refuse [vR 12 0 a0, vI 1] S3 M3) fun r4 S4 M4 =>
      some (some (vI r4), S4, M4)
    else
      bndI (K m_Mo_captainsOf [vR 12 0 a0, vI x1, vI x2] S3 M3) fun r5 S5 M5 =>
      bndI (K m_Mo_onlyOne [vI r5] S5 M5) fun r6 S6 M6 =>
      bndI (K m_Mo_orNone [vR 12 0 a0, vI r6] S6 M6) fun r7 S7 M7 =>
      some (some (vI r7), S7, M7) := (Run_EE K tb_Mo_ruledBy [] 500 0 _ _ S M).trans rfl
set_option maxRecDepth 100000 in
theorem b_Mo_share_0 (K : Cal) (a0 : Nat) (x1 : Int) (x2 : Int) (S : Sp) (M : Mm) : Run K tb_Mo_share 0 [vR 12 0 a0, vI x1, vI x2, vU, vU] [] S M =
  bndI (K m_Mo_isShip [vR 12 0 a0, vI x1] S M) fun r1 S1 M1 =>
  if r1 = 0 then
    bndI (K m_Mo_is [vR 12 0 a0, vI 1] S1 M1) fun r2 S2 M2 =>
    some (some (vI (r2 % 2)), S2, M2)
  else
    bndI (K m_Mo_isNation [vR 12 0 a0, vI x2] S1 M1) fun r3 S3 M3 =>
    if r3 = 0 then
      bndI (K m_Mo_is [vR 12 0 a0, vI 1] S3 M3) fun r4 S4 M4 =>
      some (some (vI (r4 % 2)), S4, M4)
    else
      bndV (K m_Mo_loads [vR 12 0 a0, vI x1] S3 M3) fun S5 M5 =>
      Run K tb_Mo_share 32 [vR 12 0 a0, vI x1, vI x2, vI 0, vI 0] [] S5 M5 := (Run_EE K tb_Mo_share [32] 500 0 _ _ S M).trans rfl
set_option maxRecDepth 100000 in
theorem b_Mo_share_32 (K : Cal) (a0 : Nat) (x1 : Int) (x2 : Int) (x3 : Int) (x4 : Int) (S : Sp) (M : Mm) : Run K tb_Mo_share 32 [vR 12 0 a0, vI x1, vI x2, vI x3, vI x4] [] S M =
  bR (refOf S a0 0) fun b1 =>
  if x4 < M b1 0 then
      bR (refOf S a0 0) fun b2 =>
      bndI (K m_Mo_weightOf [vR 12 0 a0, vI x4, vI (M b2 4)] S M) fun r3 S3 M3 =>
        Run K tb_Mo_share 32 [vR 12 0 a0, vI x1, vI x2, vI (w32 (x3 + r3)), vI (w32 (x4 + 1))] [] S3 M3
    else
      if x3 = 0 then
        bndI (K m_Mo_is [vR 12 0 a0, vI 6] S M) fun r4 S4 M4 =>
        some (some (vI (r4 % 2)), S4, M4)
      else
        bR (refOf S a0 0) fun b5 =>
        bndI (K m_Mo_weightOf [vR 12 0 a0, vI x2, vI (M b5 4)] S M) fun r6 S6 M6 =>
          bndI (K m_Mo_tellsBy [vR 12 0 a0, vL r6, vL x3] S6 M6) fun r7 S7 M7 =>
          some (some (vI (r7 % 2)), S7, M7) := (Run_EE K tb_Mo_share [32] 500 32 _ _ S M).trans rfl
set_option maxRecDepth 100000 in
theorem b_Mo_tellsBy_0 (K : Cal) (a0 : Nat) (x1 : Int) (x3 : Int) (S : Sp) (M : Mm) : Run K tb_Mo_tellsBy 0 [vR 12 0 a0, vL x1, vU, vL x3, vU, vU, vU, vU, vU, vU, vU] [] S M =
  Run K tb_Mo_tellsBy 6 [vR 12 0 a0, vL x1, vU, vL x3, vU, vL x1, vU, vL x3, vU, vU, vU] [] S M := (Run_EE K tb_Mo_tellsBy [6] 500 0 _ _ S M).trans rfl
set_option maxRecDepth 100000 in
theorem b_Mo_tellsBy_6 (K : Cal) (a0 : Nat) (x1 : Int) (d2 : AV) (x3 : Int) (d4 : AV) (x5 : Int) (d6 : AV) (x7 : Int) (d8 : AV) (d9 : AV) (d10 : AV) (S : Sp) (M : Mm) : Run K tb_Mo_tellsBy 6 [vR 12 0 a0, vL x1, d2, vL x3, d4, vL x5, d6, vL x7, d8, d9, d10] [] S M =
  if cmp3 x7 0 = 0 then
    if x5 = 0 then none else
      if x5 = 0 then none else
        bndI (K m_Mo_is [vR 12 0 a0, vI 0] S (up (up M a0 3 (w64 (Int.tdiv x1 x5))) a0 4 (w64 (Int.tdiv x3 x5)))) fun r1 S1 M1 =>
        some (some (vI (r1 % 2)), S1, M1)
  else
    if x7 = 0 then none else
      Run K tb_Mo_tellsBy 6 [vR 12 0 a0, vL x1, d2, vL x3, d4, vL x7, vU, vL (Int.tmod x5 x7), vU, vL (Int.tmod x5 x7), vU] [] S M := (Run_EE K tb_Mo_tellsBy [6] 500 6 _ _ S M).trans rfl
set_option maxRecDepth 100000 in
theorem b_Mo_lawful_0 (K : Cal) (a0 : Nat) (x1 : Int) (x2 : Int) (S : Sp) (M : Mm) : Run K tb_Mo_lawful 0 [vR 12 0 a0, vI x1, vI x2] [] S M =
  bndI (K m_Mo_isShip [vR 12 0 a0, vI x1] S M) fun r1 S1 M1 =>
  if r1 = 0 then
    bndI (K m_Mo_refuse [vR 12 0 a0, vI 1] S1 M1) fun r2 S2 M2 =>
    some (some (vI r2), S2, M2)
  else
    if x2 < 0 then
      bndI (K m_Mo_refuse [vR 12 0 a0, vI 1] S1 M1) fun r3 S3 M3 =>
      some (some (vI r3), S3, M3)
    else
      if x2 < 8 then
        bR (refOf S1 a0 0) fun b4 =>
        bndI (K m_Mo_captainsOf [vR 12 0 a0, vI x1, vI (M1 b4 4)] S1 M1) fun r5 S5 M5 =>
          bndI (K m_Mo_deedsBy [vR 12 0 a0, vI r5] S5 M5) fun r6 S6 M6 =>
          bndI (K m_Mo_gives [vR 12 0 a0, vI (and32 (shr32 r6 x2) 1)] S6 M6) fun r7 S7 M7 =>
          some (some (vI r7), S7, M7)
      else
        bndI (K m_Mo_refuse [vR 12 0 a0, vI 1] S1 M1) fun r8 S8 M8 =>
        some (some (vI r8), S8, M8) := (Run_EE K tb_Mo_lawful [] 500 0 _ _ S M).trans rfl
set_option maxRecDepth 100000 in
theorem b_Mo_deedsBy_0 (K : Cal) (a0 : Nat) (x1 : Int) (S : Sp) (M : Mm) : Run K tb_Mo_deedsBy 0 [vR 12 0 a0, vI x1, vU, vU, vU] [] S M =
  Run K tb_Mo_deedsBy 9 [vR 12 0 a0, vI x1, vI 255, vI 0, vI 0] [] S M := (Run_EE K tb_Mo_deedsBy [9] 500 0 _ _ S M).trans rfl
set_option maxRecDepth 100000 in
theorem b_Mo_deedsBy_9 (K : Cal) (a0 : Nat) (x1 : Int) (x2 : Int) (x3 : Int) (x4 : Int) (S : Sp) (M : Mm) : Run K tb_Mo_deedsBy 9 [vR 12 0 a0, vI x1, vI x2, vI x3, vI x4] [] S M =
  bR (refOf S a0 0) fun b1 =>
  if x4 < M b1 0 then
      bndI (K m_Mo_isIn [vR 12 0 a0, vI x1, vI x4] S M) fun r2 S2 M2 =>
      if r2 = 0 then
        Run K tb_Mo_deedsBy 9 [vR 12 0 a0, vI x1, vI x2, vI x3, vI (w32 (x4 + 1))] [] S2 M2
      else
        bR (refOf S2 a0 0) fun b3 =>
        bndI (K m_Mo_nationRow [vI x4] S2 M2) fun r4 S4 M4 =>
          if 0 ≤ w32 (r4 + 2) ∧ w32 (r4 + 2) < 4004 then
            bR (refOf S4 a0 0) fun b5 =>
            bndI (K m_Mo_nationRow [vI x4] S4 M4) fun r6 S6 M6 =>
              if 0 ≤ w32 (r6 + 2) ∧ w32 (r6 + 2) < 4004 then
                Run K tb_Mo_deedsBy 9 [vR 12 0 a0, vI x1, vI (and32 x2 (M4 b3 (w32 (r4 + 2)).toNat)), vI (or32 x3 (M6 b5 (w32 (r6 + 2)).toNat)), vI (w32 (x4 + 1))] [] S6 M6
              else none
          else none
    else
      bndI (K m_Mo_bits [vI x1] S M) fun r7 S7 M7 =>
      if r7 = 1 then
        some (some (vI x2), S7, M7)
      else
        if x1 = 0 then
          some (some (vI 255), S7, M7)
        else
          some (some (vI (or32 x2 (and32 255 (xor32 x3 (-1))))), S7, M7) := (Run_EE K tb_Mo_deedsBy [9] 500 9 _ _ S M).trans rfl
set_option maxRecDepth 100000 in
theorem b_Mo_isIn_0 (K : Cal) (a0 : Nat) (x1 : Int) (x2 : Int) (S : Sp) (M : Mm) : Run K tb_Mo_isIn 0 [vR 12 0 a0, vI x1, vI x2] [] S M =
  if and32 (shr32 x1 x2) 1 = 1 then
    some (some (vI 1), S, M)
  else
    some (some (vI 0), S, M) := (Run_EE K tb_Mo_isIn [] 500 0 _ _ S M).trans rfl
set_option maxRecDepth 100000 in
theorem b_Mo_deeds_0 (K : Cal) (a0 : Nat) (x1 : Int) (S : Sp) (M : Mm) : Run K tb_Mo_deeds 0 [vR 12 0 a0, vI x1] [] S M =
  bndI (K m_Mo_isShip [vR 12 0 a0, vI x1] S M) fun r1 S1 M1 =>
  if r1 = 0 then
    bndI (K m_Mo_refuse [vR 12 0 a0, vI 1] S1 M1) fun r2 S2 M2 =>
    some (some (vI r2), S2, M2)
  else
    bR (refOf S1 a0 0) fun b3 =>
    bndI (K m_Mo_captainsOf [vR 12 0 a0, vI x1, vI (M1 b3 4)] S1 M1) fun r4 S4 M4 =>
      bndI (K m_Mo_deedsBy [vR 12 0 a0, vI r4] S4 M4) fun r5 S5 M5 =>
      bndI (K m_Mo_gives [vR 12 0 a0, vI r5] S5 M5) fun r6 S6 M6 =>
      some (some (vI r6), S6, M6) := (Run_EE K tb_Mo_deeds [] 500 0 _ _ S M).trans rfl
set_option maxRecDepth 100000 in
theorem b_Mo_board_0 (K : Cal) (a0 : Nat) (x1 : Int) (x2 : Int) (S : Sp) (M : Mm) : Run K tb_Mo_board 0 [vR 12 0 a0, vI x1, vI x2] [] S M =
  bndI (K m_Mo_isShip [vR 12 0 a0, vI x1] S M) fun r1 S1 M1 =>
  if r1 = 0 then
    bndI (K m_Mo_refuse [vR 12 0 a0, vI 1] S1 M1) fun r2 S2 M2 =>
    some (some (vI r2), S2, M2)
  else
    bndI (K m_Mo_isShip [vR 12 0 a0, vI x2] S1 M1) fun r3 S3 M3 =>
    if r3 = 0 then
      bndI (K m_Mo_refuse [vR 12 0 a0, vI 1] S3 M3) fun r4 S4 M4 =>
      some (some (vI r4), S4, M4)
    else
      if x1 = x2 then
        bndI (K m_Mo_refuse [vR 12 0 a0, vI 1] S3 M3) fun r5 S5 M5 =>
        some (some (vI r5), S5, M5)
      else
        bndI (K m_Mo_canBoard [vR 12 0 a0, vI x1, vI x2] S3 M3) fun r6 S6 M6 =>
        if r6 = 0 then
          bndI (K m_Mo_gives [vR 12 0 a0, vI 0] S6 M6) fun r7 S7 M7 =>
          some (some (vI r7), S7, M7)
        else
          bndI (K m_Mo_gives [vR 12 0 a0, vI 1] S6 M6) fun r8 S8 M8 =>
          some (some (vI r8), S8, M8) := (Run_EE K tb_Mo_board [] 500 0 _ _ S M).trans rfl
set_option maxRecDepth 100000 in
theorem b_Mo_canBoard_0 (K : Cal) (a0 : Nat) (x1 : Int) (x2 : Int) (S : Sp) (M : Mm) : Run K tb_Mo_canBoard 0 [vR 12 0 a0, vI x1, vI x2, vU, vU] [] S M =
  bndI (K m_Mo_flagOf [vR 12 0 a0, vI x1] S M) fun r1 S1 M1 =>
  bndI (K m_Mo_flagOf [vR 12 0 a0, vI x2] S1 M1) fun r2 S2 M2 =>
  if x1 = x2 then
    some (some (vI 0), S2, M2)
  else
    if r1 = (-1) then
      some (some (vI 0), S2, M2)
    else
      if r2 = (-1) then
        some (some (vI 0), S2, M2)
      else
        bR (refOf S2 a0 0) fun b3 =>
        bndI (K m_Mo_nationRow [vI r1] S2 M2) fun r4 S4 M4 =>
          if 0 ≤ w32 (r4 + 3) ∧ w32 (r4 + 3) < 4004 then
            bndI (K m_Mo_isIn [vR 12 0 a0, vI (M4 b3 (w32 (r4 + 3)).toNat), vI r2] S4 M4) fun r5 S5 M5 =>
            if r5 = 0 then
              some (some (vI 0), S5, M5)
            else
              some (some (vI 1), S5, M5)
          else none := (Run_EE K tb_Mo_canBoard [] 500 0 _ _ S M).trans rfl
set_option maxRecDepth 100000 in
theorem b_Mo_boarders_0 (K : Cal) (a0 : Nat) (x1 : Int) (S : Sp) (M : Mm) : Run K tb_Mo_boarders 0 [vR 12 0 a0, vI x1, vU, vU] [] S M =
  bndI (K m_Mo_isShip [vR 12 0 a0, vI x1] S M) fun r1 S1 M1 =>
  if r1 = 0 then
    bndI (K m_Mo_refuse [vR 12 0 a0, vI 1] S1 M1) fun r2 S2 M2 =>
    some (some (vI r2), S2, M2)
  else
    Run K tb_Mo_boarders 18 [vR 12 0 a0, vI x1, vI 0, vI 0] [] S1 M1 := (Run_EE K tb_Mo_boarders [18] 500 0 _ _ S M).trans rfl
set_option maxRecDepth 100000 in
theorem b_Mo_boarders_18 (K : Cal) (a0 : Nat) (x1 : Int) (x2 : Int) (x3 : Int) (S : Sp) (M : Mm) : Run K tb_Mo_boarders 18 [vR 12 0 a0, vI x1, vI x2, vI x3] [] S M =
  bR (refOf S a0 0) fun b1 =>
  if x3 < M b1 3 then
      bndI (K m_Mo_canBoard [vR 12 0 a0, vI x3, vI x1] S M) fun r2 S2 M2 =>
      if r2 = 0 then
        Run K tb_Mo_boarders 18 [vR 12 0 a0, vI x1, vI (or32 x2 0), vI (w32 (x3 + 1))] [] S2 M2
      else
        Run K tb_Mo_boarders 18 [vR 12 0 a0, vI x1, vI (or32 x2 (shl32 1 x3)), vI (w32 (x3 + 1))] [] S2 M2
    else
      bndI (K m_Mo_gives [vR 12 0 a0, vI x2] S M) fun r3 S3 M3 =>
      some (some (vI r3), S3, M3) := (Run_EE K tb_Mo_boarders [18] 500 18 _ _ S M).trans rfl
set_option maxRecDepth 100000 in
theorem b_Mo_greatest_0 (K : Cal) (a0 : Nat) (x1 : Int) (S : Sp) (M : Mm) : Run K tb_Mo_greatest 0 [vR 12 0 a0, vI x1, vU, vU] [] S M =
  bndI (K m_Mo_isNation [vR 12 0 a0, vI x1] S M) fun r1 S1 M1 =>
  if r1 = 0 then
    bndI (K m_Mo_refuse [vR 12 0 a0, vI 1] S1 M1) fun r2 S2 M2 =>
    some (some (vI r2), S2, M2)
  else
    Run K tb_Mo_greatest 18 [vR 12 0 a0, vI x1, vI (-1), vI 0] [] S1 M1 := (Run_EE K tb_Mo_greatest [18] 500 0 _ _ S M).trans rfl
set_option maxRecDepth 100000 in
theorem b_Mo_greatest_18 (K : Cal) (a0 : Nat) (x1 : Int) (x2 : Int) (x3 : Int) (S : Sp) (M : Mm) : Run K tb_Mo_greatest 18 [vR 12 0 a0, vI x1, vI x2, vI x3] [] S M =
  bR (refOf S a0 0) fun b1 =>
  if x3 < M b1 3 then
      bndI (K m_Mo_tonsBy [vR 12 0 a0, vI x3, vI x1] S M) fun r2 S2 M2 =>
      if x2 = (-1) then
        if 0 < r2 then
          Run K tb_Mo_greatest 18 [vR 12 0 a0, vI x1, vI x3, vI (w32 (x3 + 1))] [] S2 M2
        else
          Run K tb_Mo_greatest 18 [vR 12 0 a0, vI x1, vI x2, vI (w32 (x3 + 1))] [] S2 M2
      else
        bndI (K m_Mo_tonsBy [vR 12 0 a0, vI x2, vI x1] S2 M2) fun r3 S3 M3 =>
        if r3 < r2 then
          Run K tb_Mo_greatest 18 [vR 12 0 a0, vI x1, vI x3, vI (w32 (x3 + 1))] [] S3 M3
        else
          Run K tb_Mo_greatest 18 [vR 12 0 a0, vI x1, vI x2, vI (w32 (x3 + 1))] [] S3 M3
    else
      bndI (K m_Mo_orNone [vR 12 0 a0, vI x2] S M) fun r4 S4 M4 =>
      some (some (vI r4), S4, M4) := (Run_EE K tb_Mo_greatest [18] 500 18 _ _ S M).trans rfl
set_option maxRecDepth 100000 in
theorem b_Mo_tonsBy_0 (K : Cal) (a0 : Nat) (x1 : Int) (x2 : Int) (S : Sp) (M : Mm) : Run K tb_Mo_tonsBy 0 [vR 12 0 a0, vI x1, vI x2] [] S M =
  bndV (K m_Mo_loads [vR 12 0 a0, vI x1] S M) fun S1 M1 =>
  bndI (K m_Mo_weightOf [vR 12 0 a0, vI x2, vI 0] S1 M1) fun r2 S2 M2 =>
  some (some (vI r2), S2, M2) := (Run_EE K tb_Mo_tonsBy [] 500 0 _ _ S M).trans rfl
set_option maxRecDepth 100000 in
theorem b_Mo_buy_0 (K : Cal) (a0 : Nat) (x1 : Int) (x2 : Int) (x3 : Int) (S : Sp) (M : Mm) : Run K tb_Mo_buy 0 [vR 12 0 a0, vI x1, vI x2, vI x3] [] S M =
  bndI (K m_Mo_isDeal [vR 12 0 a0, vI x1, vI x2, vI x3] S M) fun r1 S1 M1 =>
  if r1 = 0 then
    bndI (K m_Mo_refuse [vR 12 0 a0, vI 1] S1 M1) fun r2 S2 M2 =>
    some (some (vI r2), S2, M2)
  else
    bndI (K m_Mo_buys [vR 12 0 a0, vI x1, vI x2, vI x3] S1 M1) fun r3 S3 M3 =>
    if r3 = 0 then
      bndI (K m_Mo_refuse [vR 12 0 a0, vI 7] S3 M3) fun r4 S4 M4 =>
      some (some (vI r4), S4, M4)
    else
      bR (refOf S3 a0 0) fun b5 =>
      bndI (K m_Mo_loadRow [vR 12 0 a0, vI x1, vI x2] S3 M3) fun r6 S6 M6 =>
        if 0 ≤ r6 ∧ r6 < 4004 then
          bndI (K m_Mo_gives [vR 12 0 a0, vI (M6 b5 r6.toNat)] S6 M6) fun r7 S7 M7 =>
          some (some (vI r7), S7, M7)
        else none := (Run_EE K tb_Mo_buy [] 500 0 _ _ S M).trans rfl
set_option maxRecDepth 100000 in
theorem b_Mo_isDeal_0 (K : Cal) (a0 : Nat) (x1 : Int) (x2 : Int) (x3 : Int) (S : Sp) (M : Mm) : Run K tb_Mo_isDeal 0 [vR 12 0 a0, vI x1, vI x2, vI x3] [] S M =
  bndI (K m_Mo_isShip [vR 12 0 a0, vI x1] S M) fun r1 S1 M1 =>
  if r1 = 0 then
    some (some (vI 0), S1, M1)
  else
    bndI (K m_Mo_isGood [vR 12 0 a0, vI x2] S1 M1) fun r2 S2 M2 =>
    if r2 = 0 then
      some (some (vI 0), S2, M2)
    else
      bndI (K m_Mo_isTons [vI x3] S2 M2) fun r3 S3 M3 =>
      if r3 = 0 then
        some (some (vI 0), S3, M3)
      else
        some (some (vI 1), S3, M3) := (Run_EE K tb_Mo_isDeal [] 500 0 _ _ S M).trans rfl
set_option maxRecDepth 100000 in
theorem b_Mo_isTons_0 (K : Cal) (x0 : Int) (S : Sp) (M : Mm) : Run K tb_Mo_isTons 0 [vI x0] [] S M =
  bndI (K m_Mo_isFrom [vL x0, vL 1, vL 60] S M) fun r1 S1 M1 =>
  some (some (vI (r1 % 2)), S1, M1) := (Run_EE K tb_Mo_isTons [] 500 0 _ _ S M).trans rfl
set_option maxRecDepth 100000 in
theorem b_Mo_isFrom_0 (K : Cal) (x0 : Int) (x2 : Int) (x4 : Int) (S : Sp) (M : Mm) : Run K tb_Mo_isFrom 0 [vL x0, vU, vL x2, vU, vL x4, vU] [] S M =
  if cmp3 x0 x2 < 0 then
    some (some (vI 0), S, M)
  else
    if 0 < cmp3 x0 x4 then
      some (some (vI 0), S, M)
    else
      some (some (vI 1), S, M) := (Run_EE K tb_Mo_isFrom [] 500 0 _ _ S M).trans rfl
set_option maxRecDepth 100000 in
theorem b_Mo_buys_0 (K : Cal) (a0 : Nat) (x1 : Int) (x2 : Int) (x3 : Int) (S : Sp) (M : Mm) : Run K tb_Mo_buys 0 [vR 12 0 a0, vI x1, vI x2, vI x3, vU] [] S M =
  bndI (K m_Mo_shipOf [vR 12 0 a0, vI x1, vI 0] S M) fun r1 S1 M1 =>
  if r1 = (-1) then
    some (some (vI 0), S1, M1)
  else
    bndI (K m_Mo_priceOf [vR 12 0 a0, vI r1, vI x2] S1 M1) fun r2 S2 M2 =>
    if r2 = 0 then
      some (some (vI 0), S2, M2)
    else
      bndI (K m_Mo_roomOf [vR 12 0 a0, vI x1] S2 M2) fun r3 S3 M3 =>
      if r3 < x3 then
        some (some (vI 0), S3, M3)
      else
        bndI (K m_Mo_shipOf [vR 12 0 a0, vI x1, vI 4] S3 M3) fun r4 S4 M4 =>
        bndI (K m_Mo_priceOf [vR 12 0 a0, vI r1, vI x2] S4 M4) fun r5 S5 M5 =>
        if r4 < w32 (x3 * r5) then
          some (some (vI 0), S5, M5)
        else
          bR (refOf S5 a0 0) fun b6 =>
          bndI (K m_Mo_loadRow [vR 12 0 a0, vI x1, vI x2] S5 M5) fun r7 S7 M7 =>
            if 0 ≤ r7 ∧ r7 < 4004 then
              if 0 ≤ r7 ∧ r7 < 4004 then
                bR (refOf S7 a0 0) fun b8 =>
                bndI (K m_Mo_shipRow [vI x1] S7 (up M7 b6 r7.toNat (w32 ((M7 b6 r7.toNat) + x3)))) fun r9 S9 M9 =>
                  if 0 ≤ w32 (r9 + 4) ∧ w32 (r9 + 4) < 4004 then
                    bndI (K m_Mo_priceOf [vR 12 0 a0, vI r1, vI x2] S9 M9) fun r10 S10 M10 =>
                    if 0 ≤ w32 (r9 + 4) ∧ w32 (r9 + 4) < 4004 then
                      some (some (vI 1), S10, up M10 b8 (w32 (r9 + 4)).toNat (w32 ((M9 b8 (w32 (r9 + 4)).toNat) - (w32 (x3 * r10)))))
                    else none
                  else none
              else none
            else none := (Run_EE K tb_Mo_buys [] 500 0 _ _ S M).trans rfl
set_option maxRecDepth 100000 in
theorem b_Mo_roomOf_0 (K : Cal) (a0 : Nat) (x1 : Int) (S : Sp) (M : Mm) : Run K tb_Mo_roomOf 0 [vR 12 0 a0, vI x1] [] S M =
  bndI (K m_Mo_shipOf [vR 12 0 a0, vI x1, vI 3] S M) fun r1 S1 M1 =>
  bndI (K m_Mo_tonsOf [vR 12 0 a0, vI x1] S1 M1) fun r2 S2 M2 =>
  some (some (vI (w32 (r1 - r2))), S2, M2) := (Run_EE K tb_Mo_roomOf [] 500 0 _ _ S M).trans rfl
set_option maxRecDepth 100000 in
theorem b_Mo_loadRow_0 (K : Cal) (a0 : Nat) (x1 : Int) (x2 : Int) (S : Sp) (M : Mm) : Run K tb_Mo_loadRow 0 [vR 12 0 a0, vI x1, vI x2] [] S M =
  bndI (K m_Mo_shipRow [vI x1] S M) fun r1 S1 M1 =>
  some (some (vI (w32 ((w32 (r1 + 7)) + x2))), S1, M1) := (Run_EE K tb_Mo_loadRow [] 500 0 _ _ S M).trans rfl
set_option maxRecDepth 100000 in
theorem b_Mo_sell_0 (K : Cal) (a0 : Nat) (x1 : Int) (x2 : Int) (x3 : Int) (S : Sp) (M : Mm) : Run K tb_Mo_sell 0 [vR 12 0 a0, vI x1, vI x2, vI x3] [] S M =
  bndI (K m_Mo_isDeal [vR 12 0 a0, vI x1, vI x2, vI x3] S M) fun r1 S1 M1 =>
  if r1 = 0 then
    bndI (K m_Mo_refuse [vR 12 0 a0, vI 1] S1 M1) fun r2 S2 M2 =>
    some (some (vI r2), S2, M2)
  else
    bndI (K m_Mo_sells [vR 12 0 a0, vI x1, vI x2, vI x3] S1 M1) fun r3 S3 M3 =>
    if r3 = 0 then
      bndI (K m_Mo_refuse [vR 12 0 a0, vI 7] S3 M3) fun r4 S4 M4 =>
      some (some (vI r4), S4, M4)
    else
      bR (refOf S3 a0 0) fun b5 =>
      bndI (K m_Mo_loadRow [vR 12 0 a0, vI x1, vI x2] S3 M3) fun r6 S6 M6 =>
        if 0 ≤ r6 ∧ r6 < 4004 then
          bndI (K m_Mo_gives [vR 12 0 a0, vI (M6 b5 r6.toNat)] S6 M6) fun r7 S7 M7 =>
          some (some (vI r7), S7, M7)
        else none := (Run_EE K tb_Mo_sell [] 500 0 _ _ S M).trans rfl
set_option maxRecDepth 100000 in
theorem b_Mo_sells_0 (K : Cal) (a0 : Nat) (x1 : Int) (x2 : Int) (x3 : Int) (S : Sp) (M : Mm) : Run K tb_Mo_sells 0 [vR 12 0 a0, vI x1, vI x2, vI x3, vU] [] S M =
  bndI (K m_Mo_shipOf [vR 12 0 a0, vI x1, vI 0] S M) fun r1 S1 M1 =>
  if r1 = (-1) then
    some (some (vI 0), S1, M1)
  else
    bndI (K m_Mo_priceOf [vR 12 0 a0, vI r1, vI x2] S1 M1) fun r2 S2 M2 =>
    if r2 = 0 then
      some (some (vI 0), S2, M2)
    else
      bR (refOf S2 a0 0) fun b3 =>
      bndI (K m_Mo_loadRow [vR 12 0 a0, vI x1, vI x2] S2 M2) fun r4 S4 M4 =>
        if 0 ≤ r4 ∧ r4 < 4004 then
          if M4 b3 r4.toNat < x3 then
            some (some (vI 0), S4, M4)
          else
            bR (refOf S4 a0 0) fun b5 =>
            bndI (K m_Mo_loadRow [vR 12 0 a0, vI x1, vI x2] S4 M4) fun r6 S6 M6 =>
              if 0 ≤ r6 ∧ r6 < 4004 then
                if 0 ≤ r6 ∧ r6 < 4004 then
                  bR (refOf S6 a0 0) fun b7 =>
                  bndI (K m_Mo_shipRow [vI x1] S6 (up M6 b5 r6.toNat (w32 ((M6 b5 r6.toNat) - x3)))) fun r8 S8 M8 =>
                    bndI (K m_Mo_shipOf [vR 12 0 a0, vI x1, vI 4] S8 M8) fun r9 S9 M9 =>
                    bndI (K m_Mo_priceOf [vR 12 0 a0, vI r1, vI x2] S9 M9) fun r10 S10 M10 =>
                    if 0 ≤ w32 (r8 + 4) ∧ w32 (r8 + 4) < 4004 then
                      some (some (vI 1), S10, up M10 b7 (w32 (r8 + 4)).toNat (min 9999 (w32 (r9 + (w32 (x3 * r10))))))
                    else none
                else none
              else none
        else none := (Run_EE K tb_Mo_sells [] 500 0 _ _ S M).trans rfl
set_option maxRecDepth 100000 in
theorem b_Mo_dump_0 (K : Cal) (a0 : Nat) (x1 : Int) (x2 : Int) (x3 : Int) (S : Sp) (M : Mm) : Run K tb_Mo_dump 0 [vR 12 0 a0, vI x1, vI x2, vI x3] [] S M =
  bndI (K m_Mo_isDeal [vR 12 0 a0, vI x1, vI x2, vI x3] S M) fun r1 S1 M1 =>
  if r1 = 0 then
    bndI (K m_Mo_refuse [vR 12 0 a0, vI 1] S1 M1) fun r2 S2 M2 =>
    some (some (vI r2), S2, M2)
  else
    bndI (K m_Mo_dumps [vR 12 0 a0, vI x1, vI x2, vI x3] S1 M1) fun r3 S3 M3 =>
    if r3 = 0 then
      bndI (K m_Mo_refuse [vR 12 0 a0, vI 7] S3 M3) fun r4 S4 M4 =>
      some (some (vI r4), S4, M4)
    else
      bR (refOf S3 a0 0) fun b5 =>
      bndI (K m_Mo_loadRow [vR 12 0 a0, vI x1, vI x2] S3 M3) fun r6 S6 M6 =>
        if 0 ≤ r6 ∧ r6 < 4004 then
          bndI (K m_Mo_gives [vR 12 0 a0, vI (M6 b5 r6.toNat)] S6 M6) fun r7 S7 M7 =>
          some (some (vI r7), S7, M7)
        else none := (Run_EE K tb_Mo_dump [] 500 0 _ _ S M).trans rfl
set_option maxRecDepth 100000 in
theorem b_Mo_dumps_0 (K : Cal) (a0 : Nat) (x1 : Int) (x2 : Int) (x3 : Int) (S : Sp) (M : Mm) : Run K tb_Mo_dumps 0 [vR 12 0 a0, vI x1, vI x2, vI x3] [] S M =
  bR (refOf S a0 0) fun b1 =>
  bndI (K m_Mo_loadRow [vR 12 0 a0, vI x1, vI x2] S M) fun r2 S2 M2 =>
    if 0 ≤ r2 ∧ r2 < 4004 then
      if M2 b1 r2.toNat < x3 then
        some (some (vI 0), S2, M2)
      else
        bR (refOf S2 a0 0) fun b3 =>
        bndI (K m_Mo_loadRow [vR 12 0 a0, vI x1, vI x2] S2 M2) fun r4 S4 M4 =>
          if 0 ≤ r4 ∧ r4 < 4004 then
            if 0 ≤ r4 ∧ r4 < 4004 then
              some (some (vI 1), S4, up M4 b3 r4.toNat (w32 ((M4 b3 r4.toNat) - x3)))
            else none
          else none
    else none := (Run_EE K tb_Mo_dumps [] 500 0 _ _ S M).trans rfl
set_option maxRecDepth 100000 in
theorem b_Mo_sail_0 (K : Cal) (a0 : Nat) (x1 : Int) (x2 : Int) (S : Sp) (M : Mm) : Run K tb_Mo_sail 0 [vR 12 0 a0, vI x1, vI x2] [] S M =
  bndI (K m_Mo_isShip [vR 12 0 a0, vI x1] S M) fun r1 S1 M1 =>
  if r1 = 0 then
    bndI (K m_Mo_refuse [vR 12 0 a0, vI 1] S1 M1) fun r2 S2 M2 =>
    some (some (vI r2), S2, M2)
  else
    bndI (K m_Mo_isPort [vR 12 0 a0, vI x2] S1 M1) fun r3 S3 M3 =>
    if r3 = 0 then
      bndI (K m_Mo_refuse [vR 12 0 a0, vI 1] S3 M3) fun r4 S4 M4 =>
      some (some (vI r4), S4, M4)
    else
      bndI (K m_Mo_sails [vR 12 0 a0, vI x1, vI x2] S3 M3) fun r5 S5 M5 =>
      if r5 = 0 then
        bndI (K m_Mo_refuse [vR 12 0 a0, vI 7] S5 M5) fun r6 S6 M6 =>
        some (some (vI r6), S6, M6)
      else
        bndI (K m_Mo_shipOf [vR 12 0 a0, vI x1, vI 2] S5 M5) fun r7 S7 M7 =>
        bndI (K m_Mo_gives [vR 12 0 a0, vI r7] S7 M7) fun r8 S8 M8 =>
        some (some (vI r8), S8, M8) := (Run_EE K tb_Mo_sail [] 500 0 _ _ S M).trans rfl
set_option maxRecDepth 100000 in
theorem b_Mo_sails_0 (K : Cal) (a0 : Nat) (x1 : Int) (x2 : Int) (S : Sp) (M : Mm) : Run K tb_Mo_sails 0 [vR 12 0 a0, vI x1, vI x2, vU] [] S M =
  bndI (K m_Mo_shipOf [vR 12 0 a0, vI x1, vI 0] S M) fun r1 S1 M1 =>
  if r1 = (-1) then
    some (some (vI 0), S1, M1)
  else
    if r1 = x2 then
      some (some (vI 0), S1, M1)
    else
      bndI (K m_Mo_wayOf [vR 12 0 a0, vI r1, vI x2] S1 M1) fun r2 S2 M2 =>
      if r2 = 0 then
        some (some (vI 0), S2, M2)
      else
        bR (refOf S2 a0 0) fun b3 =>
        bndI (K m_Mo_shipRow [vI x1] S2 M2) fun r4 S4 M4 =>
          if 0 ≤ r4 ∧ r4 < 4004 then
            bR (refOf S4 a0 0) fun b5 =>
            bndI (K m_Mo_shipRow [vI x1] S4 (up M4 b3 r4.toNat (-1))) fun r6 S6 M6 =>
              if 0 ≤ w32 (r6 + 1) ∧ w32 (r6 + 1) < 4004 then
                bR (refOf S6 a0 0) fun b7 =>
                bndI (K m_Mo_shipRow [vI x1] S6 (up M6 b5 (w32 (r6 + 1)).toNat x2)) fun r8 S8 M8 =>
                  bndI (K m_Mo_wayOf [vR 12 0 a0, vI r1, vI x2] S8 M8) fun r9 S9 M9 =>
                  if 0 ≤ w32 (r8 + 2) ∧ w32 (r8 + 2) < 4004 then
                    some (some (vI 1), S9, up M9 b7 (w32 (r8 + 2)).toNat r9)
                  else none
              else none
          else none := (Run_EE K tb_Mo_sails [] 500 0 _ _ S M).trans rfl
set_option maxRecDepth 100000 in
theorem b_Mo_day_0 (K : Cal) (a0 : Nat) (x1 : Int) (S : Sp) (M : Mm) : Run K tb_Mo_day 0 [vR 12 0 a0, vI x1, vU, vU] [] S M =
  bndI (K m_Mo_isFrom [vL x1, vL 1, vL 99] S M) fun r1 S1 M1 =>
  if r1 = 0 then
    bndI (K m_Mo_refuse [vR 12 0 a0, vI 1] S1 M1) fun r2 S2 M2 =>
    some (some (vI r2), S2, M2)
  else
    bR (refOf S1 a0 0) fun b3 =>
    if 9999 < w32 ((M1 b3 5) + x1) then
        bndI (K m_Mo_refuse [vR 12 0 a0, vI 4] S1 M1) fun r4 S4 M4 =>
        some (some (vI r4), S4, M4)
      else
        Run K tb_Mo_day 42 [vR 12 0 a0, vI x1, vI 0, vI 0] [] S1 M1 := (Run_EE K tb_Mo_day [42] 500 0 _ _ S M).trans rfl
set_option maxRecDepth 100000 in
theorem b_Mo_day_42 (K : Cal) (a0 : Nat) (x1 : Int) (x2 : Int) (x3 : Int) (S : Sp) (M : Mm) : Run K tb_Mo_day 42 [vR 12 0 a0, vI x1, vI x2, vI x3] [] S M =
  if x3 < x1 then
    bndI (K m_Mo_dayGoes [vR 12 0 a0] S M) fun r1 S1 M1 =>
    Run K tb_Mo_day 42 [vR 12 0 a0, vI x1, vI (or32 x2 r1), vI (w32 (x3 + 1))] [] S1 M1
  else
    bndI (K m_Mo_gives [vR 12 0 a0, vI x2] S M) fun r2 S2 M2 =>
    some (some (vI r2), S2, M2) := (Run_EE K tb_Mo_day [42] 500 42 _ _ S M).trans rfl
set_option maxRecDepth 100000 in
theorem b_Mo_dayGoes_0 (K : Cal) (a0 : Nat) (S : Sp) (M : Mm) : Run K tb_Mo_dayGoes 0 [vR 12 0 a0, vU, vU] [] S M =
  Run K tb_Mo_dayGoes 4 [vR 12 0 a0, vI 0, vI 0] [] S M := (Run_EE K tb_Mo_dayGoes [4] 500 0 _ _ S M).trans rfl
set_option maxRecDepth 100000 in
theorem b_Mo_dayGoes_4 (K : Cal) (a0 : Nat) (x1 : Int) (x2 : Int) (S : Sp) (M : Mm) : Run K tb_Mo_dayGoes 4 [vR 12 0 a0, vI x1, vI x2] [] S M =
  bR (refOf S a0 0) fun b1 =>
  if x2 < M b1 3 then
      bndI (K m_Mo_passes [vR 12 0 a0, vI x2] S M) fun r2 S2 M2 =>
      if r2 = 0 then
        Run K tb_Mo_dayGoes 4 [vR 12 0 a0, vI (or32 x1 0), vI (w32 (x2 + 1))] [] S2 M2
      else
        Run K tb_Mo_dayGoes 4 [vR 12 0 a0, vI (or32 x1 (shl32 1 x2)), vI (w32 (x2 + 1))] [] S2 M2
    else
      bR (refOf S a0 0) fun b3 =>
      some (some (vI x1), S, up M b3 5 (w32 ((M b3 5) + 1))) := (Run_EE K tb_Mo_dayGoes [4] 500 4 _ _ S M).trans rfl
set_option maxRecDepth 100000 in
theorem b_Mo_passes_0 (K : Cal) (a0 : Nat) (x1 : Int) (S : Sp) (M : Mm) : Run K tb_Mo_passes 0 [vR 12 0 a0, vI x1, vU, vU, vU, vU] [] S M =
  bndI (K m_Mo_shipRow [vI x1] S M) fun r1 S1 M1 =>
  bR (refOf S1 a0 0) fun b2 =>
  if 0 ≤ r1 ∧ r1 < 4004 then
      if M1 b2 r1.toNat = (-1) then
        bndI (K m_Mo_flagOf [vR 12 0 a0, vI x1] S1 M1) fun r3 S3 M3 =>
        if r3 = (-1) then
          bndV (K m_Mo_loadsIn [vR 12 0 a0, vI x1, vI 1] S3 M3) fun S4 M4 =>
          Run K tb_Mo_passes 104 [vR 12 0 a0, vI x1, vI r1, vI 1, vI r3, vI 0] [] S4 M4
        else
          bR (refOf S3 a0 0) fun b5 =>
          bndI (K m_Mo_nationRow [vI r3] S3 M3) fun r6 S6 M6 =>
            if 0 ≤ r6 ∧ r6 < 4004 then
              bR (refOf S6 a0 0) fun b7 =>
              if 0 ≤ w32 (r1 + 4) ∧ w32 (r1 + 4) < 4004 then
                  if M6 b7 (w32 (r1 + 4)).toNat < M6 b5 r6.toNat then
                    bR (refOf S6 a0 0) fun b8 =>
                    if 0 ≤ w32 (r1 + 5) ∧ w32 (r1 + 5) < 4004 then
                        if 0 ≤ w32 (r1 + 5) ∧ w32 (r1 + 5) < 4004 then
                          bndV (K m_Mo_loadsIn [vR 12 0 a0, vI x1, vI 1] S6 (up M6 b8 (w32 (r1 + 5)).toNat (w32 ((M6 b8 (w32 (r1 + 5)).toNat) + 1)))) fun S9 M9 =>
                          Run K tb_Mo_passes 104 [vR 12 0 a0, vI x1, vI r1, vI 1, vI r3, vI 0] [] S9 M9
                        else none
                      else none
                  else
                    bR (refOf S6 a0 0) fun b10 =>
                    if 0 ≤ w32 (r1 + 4) ∧ w32 (r1 + 4) < 4004 then
                        if 0 ≤ w32 (r1 + 4) ∧ w32 (r1 + 4) < 4004 then
                          bndV (K m_Mo_loadsIn [vR 12 0 a0, vI x1, vI 1] S6 (up M6 b10 (w32 (r1 + 4)).toNat (w32 ((M6 b10 (w32 (r1 + 4)).toNat) - (M6 b5 r6.toNat))))) fun S11 M11 =>
                          Run K tb_Mo_passes 104 [vR 12 0 a0, vI x1, vI r1, vI 1, vI r3, vI 0] [] S11 M11
                        else none
                      else none
                else none
            else none
      else
        bndV (K m_Mo_loadsIn [vR 12 0 a0, vI x1, vI 1] S1 M1) fun S12 M12 =>
        Run K tb_Mo_passes 104 [vR 12 0 a0, vI x1, vI r1, vI 0, vI (-1), vI 0] [] S12 M12
    else none := (Run_EE K tb_Mo_passes [104] 500 0 _ _ S M).trans rfl
set_option maxRecDepth 100000 in
theorem b_Mo_passes_104 (K : Cal) (a0 : Nat) (x1 : Int) (x2 : Int) (x3 : Int) (x4 : Int) (x5 : Int) (S : Sp) (M : Mm) : Run K tb_Mo_passes 104 [vR 12 0 a0, vI x1, vI x2, vI x3, vI x4, vI x5] [] S M =
  if x5 < 8 then
    bR (refOf S a0 0) fun b1 =>
    bR (refOf S a0 24) fun b2 =>
      if 0 ≤ x5 ∧ x5 < 8 then
          if 0 ≤ w32 ((w32 (x2 + 7)) + x5) ∧ w32 ((w32 (x2 + 7)) + x5) < 4004 then
            Run K tb_Mo_passes 104 [vR 12 0 a0, vI x1, vI x2, vI x3, vI x4, vI (w32 (x5 + 1))] [] S (up M b1 (w32 ((w32 (x2 + 7)) + x5)).toNat (M b2 x5.toNat))
          else none
        else none
  else
    if x3 = 0 then
      some (some (vI 0), S, M)
    else
      bR (refOf S a0 0) fun b3 =>
      if 0 ≤ w32 (x2 + 2) ∧ w32 (x2 + 2) < 4004 then
          if 0 ≤ w32 (x2 + 2) ∧ w32 (x2 + 2) < 4004 then
            bR (refOf S a0 0) fun b4 =>
            if 0 ≤ w32 (x2 + 2) ∧ w32 (x2 + 2) < 4004 then
                if 0 < (up M b3 (w32 (x2 + 2)).toNat (w32 ((M b3 (w32 (x2 + 2)).toNat) - 1))) b4 (w32 (x2 + 2)).toNat then
                  some (some (vI 0), S, up M b3 (w32 (x2 + 2)).toNat (w32 ((M b3 (w32 (x2 + 2)).toNat) - 1)))
                else
                  bndV (K m_Mo_comesIn [vR 12 0 a0, vI x1] S (up M b3 (w32 (x2 + 2)).toNat (w32 ((M b3 (w32 (x2 + 2)).toNat) - 1)))) fun S5 M5 =>
                  some (some (vI 1), S5, M5)
              else none
          else none
        else none := (Run_EE K tb_Mo_passes [104] 500 104 _ _ S M).trans rfl
set_option maxRecDepth 100000 in
theorem b_Mo_loadsIn_0 (K : Cal) (a0 : Nat) (x1 : Int) (x2 : Int) (S : Sp) (M : Mm) : Run K tb_Mo_loadsIn 0 [vR 12 0 a0, vI x1, vI x2] [] S M =
  bndV (K m_Mo_loads [vR 12 0 a0, vI x1] S M) fun S1 M1 =>
  bndV (K m_Mo_leaks [vR 12 0 a0, vI x2] S1 M1) fun S2 M2 =>
  some (none, S2, M2) := (Run_EE K tb_Mo_loadsIn [] 500 0 _ _ S M).trans rfl
set_option maxRecDepth 100000 in
theorem b_Mo_leaks_0 (K : Cal) (a0 : Nat) (x1 : Int) (S : Sp) (M : Mm) : Run K tb_Mo_leaks 0 [vR 12 0 a0, vI x1, vU] [] S M =
  Run K tb_Mo_leaks 2 [vR 12 0 a0, vI x1, vI 0] [] S M := (Run_EE K tb_Mo_leaks [2] 500 0 _ _ S M).trans rfl
set_option maxRecDepth 100000 in
theorem b_Mo_leaks_2 (K : Cal) (a0 : Nat) (x1 : Int) (x2 : Int) (S : Sp) (M : Mm) : Run K tb_Mo_leaks 2 [vR 12 0 a0, vI x1, vI x2] [] S M =
  bR (refOf S a0 0) fun b1 =>
  if x2 < M b1 1 then
      bR (refOf S a0 24) fun b2 =>
      bR (refOf S a0 24) fun b3 =>
        if 0 ≤ x2 ∧ x2 < 8 then
            bR (refOf S a0 0) fun b4 =>
            bndI (K m_Mo_goodRow [vI x2] S M) fun r5 S5 M5 =>
              if 0 ≤ w32 (r5 + 2) ∧ w32 (r5 + 2) < 4004 then
                if 0 ≤ x2 ∧ x2 < 8 then
                  Run K tb_Mo_leaks 2 [vR 12 0 a0, vI x1, vI (w32 (x2 + 1))] [] S5 (up M5 b2 x2.toNat (max 0 (w32 ((M b3 x2.toNat) - (w32 (x1 * (M5 b4 (w32 (r5 + 2)).toNat)))))))
                else none
              else none
          else none
    else
      some (none, S, M) := (Run_EE K tb_Mo_leaks [2] 500 2 _ _ S M).trans rfl
set_option maxRecDepth 100000 in
theorem b_Mo_comesIn_0 (K : Cal) (a0 : Nat) (x1 : Int) (S : Sp) (M : Mm) : Run K tb_Mo_comesIn 0 [vR 12 0 a0, vI x1, vU, vU, vU, vU] [] S M =
  bndI (K m_Mo_shipRow [vI x1] S M) fun r1 S1 M1 =>
  bR (refOf S1 a0 0) fun b2 =>
  if 0 ≤ w32 (r1 + 1) ∧ w32 (r1 + 1) < 4004 then
      bR (refOf S1 a0 0) fun b3 =>
      if 0 ≤ r1 ∧ r1 < 4004 then
          bR (refOf S1 a0 0) fun b4 =>
          if 0 ≤ w32 (r1 + 1) ∧ w32 (r1 + 1) < 4004 then
              bR (refOf S1 a0 0) fun b5 =>
              bndI (K m_Mo_portRow [vI (M1 b2 (w32 (r1 + 1)).toNat)] S1 (up (up M1 b3 r1.toNat (M1 b2 (w32 (r1 + 1)).toNat)) b4 (w32 (r1 + 1)).toNat (-1))) fun r6 S6 M6 =>
                if 0 ≤ r6 ∧ r6 < 4004 then
                  if M6 b5 r6.toNat = (-1) then
                    some (none, S6, M6)
                  else
                    bndI (K m_Mo_flagOf [vR 12 0 a0, vI x1] S6 M6) fun r7 S7 M7 =>
                    if r7 = M6 b5 r6.toNat then
                      some (none, S7, M7)
                    else
                      bR (refOf S7 a0 0) fun b8 =>
                      if 0 ≤ w32 (r1 + 4) ∧ w32 (r1 + 4) < 4004 then
                          bR (refOf S7 a0 0) fun b9 =>
                          bndI (K m_Mo_nationRow [vI (M6 b5 r6.toNat)] S7 M7) fun r10 S10 M10 =>
                            if 0 ≤ w32 (r10 + 1) ∧ w32 (r10 + 1) < 4004 then
                              bndI (K m_Mo_tons [vR 12 0 a0] S10 M10) fun r11 S11 M11 =>
                              bR (refOf S11 a0 0) fun b12 =>
                              if 0 ≤ w32 (r1 + 4) ∧ w32 (r1 + 4) < 4004 then
                                  if 0 ≤ w32 (r1 + 4) ∧ w32 (r1 + 4) < 4004 then
                                    bR (refOf S11 a0 0) fun b13 =>
                                    if 0 ≤ w32 (r1 + 6) ∧ w32 (r1 + 6) < 4004 then
                                        if 0 ≤ w32 (r1 + 6) ∧ w32 (r1 + 6) < 4004 then
                                          some (none, S11, up (up M11 b12 (w32 (r1 + 4)).toNat (w32 ((M11 b12 (w32 (r1 + 4)).toNat) - (min (M7 b8 (w32 (r1 + 4)).toNat) (w32 ((M10 b9 (w32 (r10 + 1)).toNat) * r11)))))) b13 (w32 (r1 + 6)).toNat (w32 (((up M11 b12 (w32 (r1 + 4)).toNat (w32 ((M11 b12 (w32 (r1 + 4)).toNat) - (min (M7 b8 (w32 (r1 + 4)).toNat) (w32 ((M10 b9 (w32 (r10 + 1)).toNat) * r11)))))) b13 (w32 (r1 + 6)).toNat) + (min (M7 b8 (w32 (r1 + 4)).toNat) (w32 ((M10 b9 (w32 (r10 + 1)).toNat) * r11))))))
                                        else none
                                      else none
                                  else none
                                else none
                            else none
                        else none
                else none
            else none
        else none
    else none := (Run_EE K tb_Mo_comesIn [] 500 0 _ _ S M).trans rfl
set_option maxRecDepth 100000 in
theorem b_Mo_pass_0 (K : Cal) (a0 : Nat) (x1 : Int) (x2 : Int) (x3 : Int) (x4 : Int) (S : Sp) (M : Mm) : Run K tb_Mo_pass 0 [vR 12 0 a0, vI x1, vI x2, vI x3, vI x4] [] S M =
  bndI (K m_Mo_isShip [vR 12 0 a0, vI x1] S M) fun r1 S1 M1 =>
  if r1 = 0 then
    bndI (K m_Mo_is [vR 12 0 a0, vI 1] S1 M1) fun r2 S2 M2 =>
    some (some (vI (r2 % 2)), S2, M2)
  else
    bndI (K m_Mo_isShip [vR 12 0 a0, vI x2] S1 M1) fun r3 S3 M3 =>
    if r3 = 0 then
      bndI (K m_Mo_is [vR 12 0 a0, vI 1] S3 M3) fun r4 S4 M4 =>
      some (some (vI (r4 % 2)), S4, M4)
    else
      if x1 = x2 then
        bndI (K m_Mo_is [vR 12 0 a0, vI 1] S3 M3) fun r5 S5 M5 =>
        some (some (vI (r5 % 2)), S5, M5)
      else
        bndI (K m_Mo_isGood [vR 12 0 a0, vI x3] S3 M3) fun r6 S6 M6 =>
        if r6 = 0 then
          bndI (K m_Mo_is [vR 12 0 a0, vI 1] S6 M6) fun r7 S7 M7 =>
          some (some (vI (r7 % 2)), S7, M7)
        else
          bndI (K m_Mo_isTons [vI x4] S6 M6) fun r8 S8 M8 =>
          if r8 = 0 then
            bndI (K m_Mo_is [vR 12 0 a0, vI 1] S8 M8) fun r9 S9 M9 =>
            some (some (vI (r9 % 2)), S9, M9)
          else
            bndI (K m_Mo_shipOf [vR 12 0 a0, vI x1, vI 0] S8 M8) fun r10 S10 M10 =>
            if r10 = (-1) then
              bndI (K m_Mo_is [vR 12 0 a0, vI 7] S10 M10) fun r11 S11 M11 =>
              some (some (vI (r11 % 2)), S11, M11)
            else
              bndI (K m_Mo_shipOf [vR 12 0 a0, vI x1, vI 0] S10 M10) fun r12 S12 M12 =>
              bndI (K m_Mo_shipOf [vR 12 0 a0, vI x2, vI 0] S12 M12) fun r13 S13 M13 =>
              if r12 = r13 then
                bR (refOf S13 a0 0) fun b14 =>
                bndI (K m_Mo_loadRow [vR 12 0 a0, vI x1, vI x3] S13 M13) fun r15 S15 M15 =>
                  if 0 ≤ r15 ∧ r15 < 4004 then
                    if M15 b14 r15.toNat < x4 then
                      bndI (K m_Mo_is [vR 12 0 a0, vI 7] S15 M15) fun r16 S16 M16 =>
                      some (some (vI (r16 % 2)), S16, M16)
                    else
                      bndI (K m_Mo_roomOf [vR 12 0 a0, vI x2] S15 M15) fun r17 S17 M17 =>
                      if r17 < x4 then
                        bndI (K m_Mo_is [vR 12 0 a0, vI 7] S17 M17) fun r18 S18 M18 =>
                        some (some (vI (r18 % 2)), S18, M18)
                      else
                        bR (refOf S17 a0 0) fun b19 =>
                        bndI (K m_Mo_loadRow [vR 12 0 a0, vI x1, vI x3] S17 M17) fun r20 S20 M20 =>
                          if 0 ≤ r20 ∧ r20 < 4004 then
                            if 0 ≤ r20 ∧ r20 < 4004 then
                              bR (refOf S20 a0 0) fun b21 =>
                              bndI (K m_Mo_loadRow [vR 12 0 a0, vI x2, vI x3] S20 (up M20 b19 r20.toNat (w32 ((M20 b19 r20.toNat) - x4)))) fun r22 S22 M22 =>
                                if 0 ≤ r22 ∧ r22 < 4004 then
                                  if 0 ≤ r22 ∧ r22 < 4004 then
                                    bndI (K m_Mo_is [vR 12 0 a0, vI 0] S22 (up M22 b21 r22.toNat (w32 ((M22 b21 r22.toNat) + x4)))) fun r23 S23 M23 =>
                                    some (some (vI (r23 % 2)), S23, M23)
                                  else none
                                else none
                            else none
                          else none
                  else none
              else
                bndI (K m_Mo_is [vR 12 0 a0, vI 7] S13 M13) fun r24 S24 M24 =>
                some (some (vI (r24 % 2)), S24, M24) := (Run_EE K tb_Mo_pass [] 500 0 _ _ S M).trans rfl
set_option maxRecDepth 100000 in
theorem b_Mo_rule_0 (K : Cal) (a0 : Nat) (x1 : Int) (S : Sp) (M : Mm) : Run K tb_Mo_rule 0 [vR 12 0 a0, vI x1] [] S M =
  bndI (K m_Mo_isRule [vI x1] S M) fun r1 S1 M1 =>
  if r1 = 0 then
    bndI (K m_Mo_is [vR 12 0 a0, vI 1] S1 M1) fun r2 S2 M2 =>
    some (some (vI (r2 % 2)), S2, M2)
  else
    bR (refOf S1 a0 0) fun b3 =>
    bndI (K m_Mo_is [vR 12 0 a0, vI 0] S1 (up M1 b3 4 x1)) fun r4 S4 M4 =>
      some (some (vI (r4 % 2)), S4, M4) := (Run_EE K tb_Mo_rule [] 500 0 _ _ S M).trans rfl
set_option maxRecDepth 100000 in
theorem b_Mo_war_0 (K : Cal) (a0 : Nat) (x1 : Int) (x2 : Int) (x3 : Int) (S : Sp) (M : Mm) : Run K tb_Mo_war 0 [vR 12 0 a0, vI x1, vI x2, vI x3] [] S M =
  bndI (K m_Mo_isNation [vR 12 0 a0, vI x1] S M) fun r1 S1 M1 =>
  if r1 = 0 then
    bndI (K m_Mo_is [vR 12 0 a0, vI 1] S1 M1) fun r2 S2 M2 =>
    some (some (vI (r2 % 2)), S2, M2)
  else
    bndI (K m_Mo_isNation [vR 12 0 a0, vI x2] S1 M1) fun r3 S3 M3 =>
    if r3 = 0 then
      bndI (K m_Mo_is [vR 12 0 a0, vI 1] S3 M3) fun r4 S4 M4 =>
      some (some (vI (r4 % 2)), S4, M4)
    else
      if x1 = x2 then
        bndI (K m_Mo_is [vR 12 0 a0, vI 1] S3 M3) fun r5 S5 M5 =>
        some (some (vI (r5 % 2)), S5, M5)
      else
        bR (refOf S3 a0 0) fun b6 =>
        bndI (K m_Mo_nationRow [vI x1] S3 M3) fun r7 S7 M7 =>
          if 0 ≤ w32 (r7 + 3) ∧ w32 (r7 + 3) < 4004 then
            bndI (K m_Mo_isIn [vR 12 0 a0, vI (M7 b6 (w32 (r7 + 3)).toNat), vI x2] S7 M7) fun r8 S8 M8 =>
            if r8 = x3 then
              bndI (K m_Mo_is [vR 12 0 a0, vI 7] S8 M8) fun r9 S9 M9 =>
              some (some (vI (r9 % 2)), S9, M9)
            else
              bR (refOf S8 a0 0) fun b10 =>
              bndI (K m_Mo_nationRow [vI x1] S8 M8) fun r11 S11 M11 =>
                if 0 ≤ w32 (r11 + 3) ∧ w32 (r11 + 3) < 4004 then
                  if 0 ≤ w32 (r11 + 3) ∧ w32 (r11 + 3) < 4004 then
                    bR (refOf S11 a0 0) fun b12 =>
                    bndI (K m_Mo_nationRow [vI x2] S11 (up M11 b10 (w32 (r11 + 3)).toNat (xor32 (M11 b10 (w32 (r11 + 3)).toNat) (shl32 1 x2)))) fun r13 S13 M13 =>
                      if 0 ≤ w32 (r13 + 3) ∧ w32 (r13 + 3) < 4004 then
                        if 0 ≤ w32 (r13 + 3) ∧ w32 (r13 + 3) < 4004 then
                          bndI (K m_Mo_is [vR 12 0 a0, vI 0] S13 (up M13 b12 (w32 (r13 + 3)).toNat (xor32 (M13 b12 (w32 (r13 + 3)).toNat) (shl32 1 x1)))) fun r14 S14 M14 =>
                          some (some (vI (r14 % 2)), S14, M14)
                        else none
                      else none
                  else none
                else none
          else none := (Run_EE K tb_Mo_war [] 500 0 _ _ S M).trans rfl
set_option maxRecDepth 100000 in
theorem b_Mo_trade_0 (K : Cal) (a0 : Nat) (x1 : Int) (x2 : Int) (x3 : Int) (S : Sp) (M : Mm) : Run K tb_Mo_trade 0 [vR 12 0 a0, vI x1, vI x2, vI x3] [] S M =
  bndI (K m_Mo_isPort [vR 12 0 a0, vI x1] S M) fun r1 S1 M1 =>
  if r1 = 0 then
    bndI (K m_Mo_is [vR 12 0 a0, vI 1] S1 M1) fun r2 S2 M2 =>
    some (some (vI (r2 % 2)), S2, M2)
  else
    bndI (K m_Mo_isGood [vR 12 0 a0, vI x2] S1 M1) fun r3 S3 M3 =>
    if r3 = 0 then
      bndI (K m_Mo_is [vR 12 0 a0, vI 1] S3 M3) fun r4 S4 M4 =>
      some (some (vI (r4 % 2)), S4, M4)
    else
      bndI (K m_Mo_isFrom [vL x3, vL 0, vL 99] S3 M3) fun r5 S5 M5 =>
      if r5 = 0 then
        bndI (K m_Mo_is [vR 12 0 a0, vI 1] S5 M5) fun r6 S6 M6 =>
        some (some (vI (r6 % 2)), S6, M6)
      else
        bR (refOf S5 a0 0) fun b7 =>
        bndI (K m_Mo_portRow [vI x1] S5 M5) fun r8 S8 M8 =>
          if 0 ≤ w32 ((w32 (r8 + 1)) + x2) ∧ w32 ((w32 (r8 + 1)) + x2) < 4004 then
            bndI (K m_Mo_is [vR 12 0 a0, vI 0] S8 (up M8 b7 (w32 ((w32 (r8 + 1)) + x2)).toNat x3)) fun r9 S9 M9 =>
            some (some (vI (r9 % 2)), S9, M9)
          else none := (Run_EE K tb_Mo_trade [] 500 0 _ _ S M).trans rfl
set_option maxRecDepth 100000 in
theorem b_Mo_pay_0 (K : Cal) (a0 : Nat) (x1 : Int) (x2 : Int) (S : Sp) (M : Mm) : Run K tb_Mo_pay 0 [vR 12 0 a0, vI x1, vI x2] [] S M =
  bndI (K m_Mo_isShip [vR 12 0 a0, vI x1] S M) fun r1 S1 M1 =>
  if r1 = 0 then
    bndI (K m_Mo_refuse [vR 12 0 a0, vI 1] S1 M1) fun r2 S2 M2 =>
    some (some (vI r2), S2, M2)
  else
    bndI (K m_Mo_isFrom [vL x2, vL (-9999), vL 9999] S1 M1) fun r3 S3 M3 =>
    if r3 = 0 then
      bndI (K m_Mo_refuse [vR 12 0 a0, vI 1] S3 M3) fun r4 S4 M4 =>
      some (some (vI r4), S4, M4)
    else
      bndI (K m_Mo_shipOf [vR 12 0 a0, vI x1, vI 4] S3 M3) fun r5 S5 M5 =>
      bndI (K m_Mo_isFrom [vL (w32 (r5 + x2)), vL 0, vL 9999] S5 M5) fun r6 S6 M6 =>
      if r6 = 0 then
        bndI (K m_Mo_refuse [vR 12 0 a0, vI 7] S6 M6) fun r7 S7 M7 =>
        some (some (vI r7), S7, M7)
      else
        bR (refOf S6 a0 0) fun b8 =>
        bndI (K m_Mo_shipRow [vI x1] S6 M6) fun r9 S9 M9 =>
          if 0 ≤ w32 (r9 + 4) ∧ w32 (r9 + 4) < 4004 then
            if 0 ≤ w32 (r9 + 4) ∧ w32 (r9 + 4) < 4004 then
              bndI (K m_Mo_shipOf [vR 12 0 a0, vI x1, vI 4] S9 (up M9 b8 (w32 (r9 + 4)).toNat (w32 ((M9 b8 (w32 (r9 + 4)).toNat) + x2)))) fun r10 S10 M10 =>
              bndI (K m_Mo_gives [vR 12 0 a0, vI r10] S10 M10) fun r11 S11 M11 =>
              some (some (vI r11), S11, M11)
            else none
          else none := (Run_EE K tb_Mo_pay [] 500 0 _ _ S M).trans rfl
set_option maxRecDepth 100000 in
theorem b_Mo_flagIn_0 (K : Cal) (a0 : Nat) (x1 : Int) (x2 : Int) (S : Sp) (M : Mm) : Run K tb_Mo_flagIn 0 [vR 12 0 a0, vI x1, vI x2] [] S M =
  bndI (K m_Mo_isSpan [vR 12 0 a0, vI x1, vI x2] S M) fun r1 S1 M1 =>
  if r1 = 0 then
    bndI (K m_Mo_refuse [vR 12 0 a0, vI 1] S1 M1) fun r2 S2 M2 =>
    some (some (vI r2), S2, M2)
  else
    bndI (K m_Mo_flagBy [vR 12 0 a0, vI x1, vI x2] S1 M1) fun r3 S3 M3 =>
    bndI (K m_Mo_orNone [vR 12 0 a0, vI r3] S3 M3) fun r4 S4 M4 =>
    some (some (vI r4), S4, M4) := (Run_EE K tb_Mo_flagIn [] 500 0 _ _ S M).trans rfl
set_option maxRecDepth 100000 in
theorem b_Mo_isSpan_0 (K : Cal) (a0 : Nat) (x1 : Int) (x2 : Int) (S : Sp) (M : Mm) : Run K tb_Mo_isSpan 0 [vR 12 0 a0, vI x1, vI x2] [] S M =
  bndI (K m_Mo_isShip [vR 12 0 a0, vI x1] S M) fun r1 S1 M1 =>
  if r1 = 0 then
    some (some (vI 0), S1, M1)
  else
    bndI (K m_Mo_isFrom [vL x2, vL 0, vL 99] S1 M1) fun r2 S2 M2 =>
    if r2 = 0 then
      some (some (vI 0), S2, M2)
    else
      some (some (vI 1), S2, M2) := (Run_EE K tb_Mo_isSpan [] 500 0 _ _ S M).trans rfl
set_option maxRecDepth 100000 in
theorem b_Mo_flagBy_0 (K : Cal) (a0 : Nat) (x1 : Int) (x2 : Int) (S : Sp) (M : Mm) : Run K tb_Mo_flagBy 0 [vR 12 0 a0, vI x1, vI x2] [] S M =
  bndV (K m_Mo_loadsIn [vR 12 0 a0, vI x1, vI x2] S M) fun S1 M1 =>
  bndI (K m_Mo_flag [vR 12 0 a0] S1 M1) fun r2 S2 M2 =>
  some (some (vI r2), S2, M2) := (Run_EE K tb_Mo_flagBy [] 500 0 _ _ S M).trans rfl
set_option maxRecDepth 100000 in
theorem b_Mo_tonsIn_0 (K : Cal) (a0 : Nat) (x1 : Int) (x2 : Int) (S : Sp) (M : Mm) : Run K tb_Mo_tonsIn 0 [vR 12 0 a0, vI x1, vI x2] [] S M =
  bndI (K m_Mo_isSpan [vR 12 0 a0, vI x1, vI x2] S M) fun r1 S1 M1 =>
  if r1 = 0 then
    bndI (K m_Mo_refuse [vR 12 0 a0, vI 1] S1 M1) fun r2 S2 M2 =>
    some (some (vI r2), S2, M2)
  else
    bndV (K m_Mo_loadsIn [vR 12 0 a0, vI x1, vI x2] S1 M1) fun S3 M3 =>
    bndI (K m_Mo_tons [vR 12 0 a0] S3 M3) fun r4 S4 M4 =>
    bndI (K m_Mo_gives [vR 12 0 a0, vI r4] S4 M4) fun r5 S5 M5 =>
    some (some (vI r5), S5, M5) := (Run_EE K tb_Mo_tonsIn [] 500 0 _ _ S M).trans rfl
set_option maxRecDepth 100000 in
theorem b_Mo_turns_0 (K : Cal) (a0 : Nat) (x1 : Int) (S : Sp) (M : Mm) : Run K tb_Mo_turns 0 [vR 12 0 a0, vI x1, vU, vU] [] S M =
  bndI (K m_Mo_isShip [vR 12 0 a0, vI x1] S M) fun r1 S1 M1 =>
  if r1 = 0 then
    bndI (K m_Mo_refuse [vR 12 0 a0, vI 1] S1 M1) fun r2 S2 M2 =>
    some (some (vI r2), S2, M2)
  else
    bR (refOf S1 a0 0) fun b3 =>
    bndI (K m_Mo_captainsOf [vR 12 0 a0, vI x1, vI (M1 b3 4)] S1 M1) fun r4 S4 M4 =>
      Run K tb_Mo_turns 28 [vR 12 0 a0, vI x1, vI r4, vI 1] [] S4 M4 := (Run_EE K tb_Mo_turns [28] 500 0 _ _ S M).trans rfl
set_option maxRecDepth 100000 in
theorem b_Mo_turns_28 (K : Cal) (a0 : Nat) (x1 : Int) (x2 : Int) (x3 : Int) (S : Sp) (M : Mm) : Run K tb_Mo_turns 28 [vR 12 0 a0, vI x1, vI x2, vI x3] [] S M =
  if 99 < x3 then
    bndI (K m_Mo_refuse [vR 12 0 a0, vI 6] S M) fun r1 S1 M1 =>
    some (some (vI r1), S1, M1)
  else
    bndV (K m_Mo_loadsIn [vR 12 0 a0, vI x1, vI x3] S M) fun S2 M2 =>
    bndI (K m_Mo_captainsNow [vR 12 0 a0] S2 M2) fun r3 S3 M3 =>
    if r3 = x2 then
      Run K tb_Mo_turns 28 [vR 12 0 a0, vI x1, vI x2, vI (w32 (x3 + 1))] [] S3 M3
    else
      bndI (K m_Mo_gives [vR 12 0 a0, vI x3] S3 M3) fun r4 S4 M4 =>
      some (some (vI r4), S4, M4) := (Run_EE K tb_Mo_turns [28] 500 28 _ _ S M).trans rfl
set_option maxRecDepth 100000 in
theorem b_Mo_flags_0 (K : Cal) (a0 : Nat) (x1 : Int) (x2 : Int) (S : Sp) (M : Mm) : Run K tb_Mo_flags 0 [vR 12 0 a0, vI x1, vI x2, vU, vU, vU, vU] [] S M =
  bndI (K m_Mo_isSpan [vR 12 0 a0, vI x1, vI x2] S M) fun r1 S1 M1 =>
  if r1 = 0 then
    bndI (K m_Mo_refuse [vR 12 0 a0, vI 1] S1 M1) fun r2 S2 M2 =>
    some (some (vI r2), S2, M2)
  else
    Run K tb_Mo_flags 23 [vR 12 0 a0, vI x1, vI x2, vI 0, vI (-1), vI 0, vU] [] S1 M1 := (Run_EE K tb_Mo_flags [23] 500 0 _ _ S M).trans rfl
set_option maxRecDepth 100000 in
theorem b_Mo_flags_23 (K : Cal) (a0 : Nat) (x1 : Int) (x2 : Int) (x3 : Int) (x4 : Int) (x5 : Int) (d6 : AV) (S : Sp) (M : Mm) : Run K tb_Mo_flags 23 [vR 12 0 a0, vI x1, vI x2, vI x3, vI x4, vI x5, d6] [] S M =
  if x2 < x5 then
    bndI (K m_Mo_gives [vR 12 0 a0, vI x3] S M) fun r1 S1 M1 =>
    some (some (vI r1), S1, M1)
  else
    bndI (K m_Mo_flagBy [vR 12 0 a0, vI x1, vI x5] S M) fun r2 S2 M2 =>
    if r2 = (-1) then
      Run K tb_Mo_flags 23 [vR 12 0 a0, vI x1, vI x2, vI (w32 (x3 + 0)), vI r2, vI (w32 (x5 + 1)), vI r2] [] S2 M2
    else
      if r2 = x4 then
        Run K tb_Mo_flags 23 [vR 12 0 a0, vI x1, vI x2, vI (w32 (x3 + 0)), vI r2, vI (w32 (x5 + 1)), vI r2] [] S2 M2
      else
        Run K tb_Mo_flags 23 [vR 12 0 a0, vI x1, vI x2, vI (w32 (x3 + 1)), vI r2, vI (w32 (x5 + 1)), vI r2] [] S2 M2 := (Run_EE K tb_Mo_flags [23] 500 23 _ _ S M).trans rfl
set_option maxRecDepth 100000 in
theorem b_Mo_wages_0 (K : Cal) (a0 : Nat) (x1 : Int) (x2 : Int) (S : Sp) (M : Mm) : Run K tb_Mo_wages 0 [vR 12 0 a0, vI x1, vI x2, vU, vU] [] S M =
  bndI (K m_Mo_isSpan [vR 12 0 a0, vI x1, vI x2] S M) fun r1 S1 M1 =>
  if r1 = 0 then
    bndI (K m_Mo_refuse [vR 12 0 a0, vI 1] S1 M1) fun r2 S2 M2 =>
    some (some (vI r2), S2, M2)
  else
    Run K tb_Mo_wages 20 [vR 12 0 a0, vI x1, vI x2, vI 0, vI 0] [] S1 M1 := (Run_EE K tb_Mo_wages [20] 500 0 _ _ S M).trans rfl
set_option maxRecDepth 100000 in
theorem b_Mo_wages_20 (K : Cal) (a0 : Nat) (x1 : Int) (x2 : Int) (x3 : Int) (x4 : Int) (S : Sp) (M : Mm) : Run K tb_Mo_wages 20 [vR 12 0 a0, vI x1, vI x2, vI x3, vI x4] [] S M =
  if x4 < x2 then
    bndI (K m_Mo_flagBy [vR 12 0 a0, vI x1, vI x4] S M) fun r1 S1 M1 =>
    if r1 = (-1) then
      Run K tb_Mo_wages 20 [vR 12 0 a0, vI x1, vI x2, vI (w32 (x3 + 0)), vI (w32 (x4 + 1))] [] S1 M1
    else
      bR (refOf S1 a0 0) fun b2 =>
      bndI (K m_Mo_flagBy [vR 12 0 a0, vI x1, vI x4] S1 M1) fun r3 S3 M3 =>
        bndI (K m_Mo_nationRow [vI r3] S3 M3) fun r4 S4 M4 =>
        if 0 ≤ r4 ∧ r4 < 4004 then
          Run K tb_Mo_wages 20 [vR 12 0 a0, vI x1, vI x2, vI (w32 (x3 + (M4 b2 r4.toNat))), vI (w32 (x4 + 1))] [] S4 M4
        else none
  else
    bndI (K m_Mo_gives [vR 12 0 a0, vI x3] S M) fun r5 S5 M5 =>
    some (some (vI r5), S5, M5) := (Run_EE K tb_Mo_wages [20] 500 20 _ _ S M).trans rfl
set_option maxRecDepth 100000 in
theorem b_Mo_stowaway_0 (K : Cal) (a0 : Nat) (x1 : Int) (S : Sp) (M : Mm) : Run K tb_Mo_stowaway 0 [vR 12 0 a0, vI x1] [] S M =
  bndI (K m_Mo_isShip [vR 12 0 a0, vI x1] S M) fun r1 S1 M1 =>
  if r1 = 0 then
    bndI (K m_Mo_refuse [vR 12 0 a0, vI 1] S1 M1) fun r2 S2 M2 =>
    some (some (vI r2), S2, M2)
  else
    bndI (K m_Mo_stows [vR 12 0 a0, vI x1] S1 M1) fun r3 S3 M3 =>
    bndI (K m_Mo_orNone [vR 12 0 a0, vI r3] S3 M3) fun r4 S4 M4 =>
    some (some (vI r4), S4, M4) := (Run_EE K tb_Mo_stowaway [] 500 0 _ _ S M).trans rfl
set_option maxRecDepth 100000 in
theorem b_Mo_stows_0 (K : Cal) (a0 : Nat) (x1 : Int) (S : Sp) (M : Mm) : Run K tb_Mo_stows 0 [vR 12 0 a0, vI x1, vU, vU] [] S M =
  bR (refOf S a0 0) fun b1 =>
  bndI (K m_Mo_captainsOf [vR 12 0 a0, vI x1, vI (M b1 4)] S M) fun r2 S2 M2 =>
    Run K tb_Mo_stows 14 [vR 12 0 a0, vI x1, vI r2, vI 1] [] S2 M2 := (Run_EE K tb_Mo_stows [14, 25] 500 0 _ _ S M).trans rfl
set_option maxRecDepth 100000 in
theorem b_Mo_stows_14 (K : Cal) (a0 : Nat) (x1 : Int) (x2 : Int) (x3 : Int) (S : Sp) (M : Mm) : Run K tb_Mo_stows 14 [vR 12 0 a0, vI x1, vI x2, vI x3] [] S M =
  if 60 < x3 then
    some (some (vI (-1)), S, M)
  else
    Run K tb_Mo_stows 25 [vR 12 0 a0, vI x1, vI x2, vI x3] [] S (up M a0 25 0) := (Run_EE K tb_Mo_stows [14, 25] 500 14 _ _ S M).trans rfl
set_option maxRecDepth 100000 in
theorem b_Mo_stows_25 (K : Cal) (a0 : Nat) (x1 : Int) (x2 : Int) (x3 : Int) (S : Sp) (M : Mm) : Run K tb_Mo_stows 25 [vR 12 0 a0, vI x1, vI x2, vI x3] [] S M =
  bR (refOf S a0 0) fun b1 =>
  if M a0 25 < M b1 1 then
      bndV (K m_Mo_loads [vR 12 0 a0, vI x1] S M) fun S2 M2 =>
      bR (refOf S2 a0 24) fun b3 =>
      if 0 ≤ M2 a0 25 ∧ M2 a0 25 < 8 then
          if 0 ≤ M2 a0 25 ∧ M2 a0 25 < 8 then
            bndI (K m_Mo_captainsNow [vR 12 0 a0] S2 (up M2 b3 (M2 a0 25).toNat (w32 ((M2 b3 (M2 a0 25).toNat) + x3)))) fun r4 S4 M4 =>
            if r4 = x2 then
              Run K tb_Mo_stows 25 [vR 12 0 a0, vI x1, vI x2, vI x3] [] S4 (up M4 a0 25 (w32 ((M4 a0 25) + 1)))
            else
              some (some (vI x3), S4, M4)
          else none
        else none
    else
      Run K tb_Mo_stows 14 [vR 12 0 a0, vI x1, vI x2, vI (w32 (x3 + 1))] [] S M := (Run_EE K tb_Mo_stows [14, 25] 500 25 _ _ S M).trans rfl
set_option maxRecDepth 100000 in
theorem b_Mo_stowawayGood_0 (K : Cal) (a0 : Nat) (x1 : Int) (S : Sp) (M : Mm) : Run K tb_Mo_stowawayGood 0 [vR 12 0 a0, vI x1] [] S M =
  bndI (K m_Mo_isShip [vR 12 0 a0, vI x1] S M) fun r1 S1 M1 =>
  if r1 = 0 then
    bndI (K m_Mo_refuse [vR 12 0 a0, vI 1] S1 M1) fun r2 S2 M2 =>
    some (some (vI r2), S2, M2)
  else
    bndI (K m_Mo_stows [vR 12 0 a0, vI x1] S1 M1) fun r3 S3 M3 =>
    if r3 = (-1) then
      bndI (K m_Mo_refuse [vR 12 0 a0, vI 6] S3 M3) fun r4 S4 M4 =>
      some (some (vI r4), S4, M4)
    else
      bndI (K m_Mo_gives [vR 12 0 a0, vI (M3 a0 25)] S3 M3) fun r5 S5 M5 =>
      some (some (vI r5), S5, M5) := (Run_EE K tb_Mo_stowawayGood [] 500 0 _ _ S M).trans rfl
set_option maxRecDepth 100000 in
theorem b_Mo_guard_0 (K : Cal) (a0 : Nat) (x1 : Int) (x2 : Int) (S : Sp) (M : Mm) : Run K tb_Mo_guard 0 [vR 12 0 a0, vI x1, vI x2] [] S M =
  bndI (K m_Mo_isShip [vR 12 0 a0, vI x1] S M) fun r1 S1 M1 =>
  if r1 = 0 then
    bndI (K m_Mo_refuse [vR 12 0 a0, vI 1] S1 M1) fun r2 S2 M2 =>
    some (some (vI r2), S2, M2)
  else
    bndI (K m_Mo_isTons [vI x2] S1 M1) fun r3 S3 M3 =>
    if r3 = 0 then
      bndI (K m_Mo_refuse [vR 12 0 a0, vI 1] S3 M3) fun r4 S4 M4 =>
      some (some (vI r4), S4, M4)
    else
      bndI (K m_Mo_isGuarded [vR 12 0 a0, vI x1, vI x2] S3 M3) fun r5 S5 M5 =>
      if r5 = 0 then
        bndI (K m_Mo_gives [vR 12 0 a0, vI 0] S5 M5) fun r6 S6 M6 =>
        some (some (vI r6), S6, M6)
      else
        bndI (K m_Mo_gives [vR 12 0 a0, vI 1] S5 M5) fun r7 S7 M7 =>
        some (some (vI r7), S7, M7) := (Run_EE K tb_Mo_guard [] 500 0 _ _ S M).trans rfl
set_option maxRecDepth 100000 in
theorem b_Mo_isGuarded_0 (K : Cal) (a0 : Nat) (x1 : Int) (x2 : Int) (S : Sp) (M : Mm) : Run K tb_Mo_isGuarded 0 [vR 12 0 a0, vI x1, vI x2, vU, vU] [] S M =
  bR (refOf S a0 0) fun b1 =>
  bndI (K m_Mo_captainsOf [vR 12 0 a0, vI x1, vI (M b1 4)] S M) fun r2 S2 M2 =>
    Run K tb_Mo_isGuarded 15 [vR 12 0 a0, vI x1, vI x2, vI r2, vI 0] [] S2 M2 := (Run_EE K tb_Mo_isGuarded [15] 500 0 _ _ S M).trans rfl
set_option maxRecDepth 100000 in
theorem b_Mo_isGuarded_15 (K : Cal) (a0 : Nat) (x1 : Int) (x2 : Int) (x3 : Int) (x4 : Int) (S : Sp) (M : Mm) : Run K tb_Mo_isGuarded 15 [vR 12 0 a0, vI x1, vI x2, vI x3, vI x4] [] S M =
  bR (refOf S a0 0) fun b1 =>
  if x4 < M b1 1 then
      bndV (K m_Mo_loads [vR 12 0 a0, vI x1] S M) fun S2 M2 =>
      bR (refOf S2 a0 24) fun b3 =>
      if 0 ≤ x4 ∧ x4 < 8 then
          if 0 ≤ x4 ∧ x4 < 8 then
            bndI (K m_Mo_captainsNow [vR 12 0 a0] S2 (up M2 b3 x4.toNat (w32 ((M2 b3 x4.toNat) + x2)))) fun r4 S4 M4 =>
            if r4 = x3 then
              bndV (K m_Mo_loads [vR 12 0 a0, vI x1] S4 M4) fun S5 M5 =>
              bR (refOf S5 a0 24) fun b6 =>
              bR (refOf S5 a0 24) fun b7 =>
                if 0 ≤ x4 ∧ x4 < 8 then
                    if 0 ≤ x4 ∧ x4 < 8 then
                      bndI (K m_Mo_captainsNow [vR 12 0 a0] S5 (up M5 b6 x4.toNat (max 0 (w32 ((M5 b7 x4.toNat) - x2))))) fun r8 S8 M8 =>
                      if r8 = x3 then
                        Run K tb_Mo_isGuarded 15 [vR 12 0 a0, vI x1, vI x2, vI x3, vI (w32 (x4 + 1))] [] S8 M8
                      else
                        some (some (vI 0), S8, M8)
                    else none
                  else none
            else
              some (some (vI 0), S4, M4)
          else none
        else none
    else
      some (some (vI 1), S, M) := (Run_EE K tb_Mo_isGuarded [15] 500 15 _ _ S M).trans rfl
set_option maxRecDepth 100000 in
theorem b_Mo_passFor_0 (K : Cal) (a0 : Nat) (x1 : Int) (x2 : Int) (S : Sp) (M : Mm) : Run K tb_Mo_passFor 0 [vR 12 0 a0, vI x1, vI x2] [] S M =
  bndI (K m_Mo_isShip [vR 12 0 a0, vI x1] S M) fun r1 S1 M1 =>
  if r1 = 0 then
    bndI (K m_Mo_refuse [vR 12 0 a0, vI 1] S1 M1) fun r2 S2 M2 =>
    some (some (vI r2), S2, M2)
  else
    bndI (K m_Mo_isNation [vR 12 0 a0, vI x2] S1 M1) fun r3 S3 M3 =>
    if r3 = 0 then
      bndI (K m_Mo_refuse [vR 12 0 a0, vI 1] S3 M3) fun r4 S4 M4 =>
      some (some (vI r4), S4, M4)
    else
      bndI (K m_Mo_passes0 [vR 12 0 a0, vI x1, vI x2] S3 M3) fun r5 S5 M5 =>
      bndI (K m_Mo_orNone [vR 12 0 a0, vI r5] S5 M5) fun r6 S6 M6 =>
      some (some (vI r6), S6, M6) := (Run_EE K tb_Mo_passFor [] 500 0 _ _ S M).trans rfl
set_option maxRecDepth 100000 in
theorem b_Mo_passes0_0 (K : Cal) (a0 : Nat) (x1 : Int) (x2 : Int) (S : Sp) (M : Mm) : Run K tb_Mo_passes0 0 [vR 12 0 a0, vI x1, vI x2, vU, vU] [] S M =
  bndI (K m_Mo_roomOf [vR 12 0 a0, vI x1] S M) fun r1 S1 M1 =>
  bndI (K m_Mo_flagOf [vR 12 0 a0, vI x1] S1 (up M1 a0 26 (-1))) fun r2 S2 M2 =>
  if r2 = x2 then
    some (some (vI 0), S2, M2)
  else
    Run K tb_Mo_passes0 25 [vR 12 0 a0, vI x1, vI x2, vI r1, vI 1] [] S2 M2 := (Run_EE K tb_Mo_passes0 [25, 36] 500 0 _ _ S M).trans rfl
set_option maxRecDepth 100000 in
theorem b_Mo_passes0_25 (K : Cal) (a0 : Nat) (x1 : Int) (x2 : Int) (x3 : Int) (x4 : Int) (S : Sp) (M : Mm) : Run K tb_Mo_passes0 25 [vR 12 0 a0, vI x1, vI x2, vI x3, vI x4] [] S M =
  if x3 < x4 then
    some (some (vI (-1)), S, M)
  else
    Run K tb_Mo_passes0 36 [vR 12 0 a0, vI x1, vI x2, vI x3, vI x4] [] S (up M a0 26 0) := (Run_EE K tb_Mo_passes0 [25, 36] 500 25 _ _ S M).trans rfl
set_option maxRecDepth 100000 in
theorem b_Mo_passes0_36 (K : Cal) (a0 : Nat) (x1 : Int) (x2 : Int) (x3 : Int) (x4 : Int) (S : Sp) (M : Mm) : Run K tb_Mo_passes0 36 [vR 12 0 a0, vI x1, vI x2, vI x3, vI x4] [] S M =
  bR (refOf S a0 0) fun b1 =>
  if M a0 26 < M b1 1 then
      bndV (K m_Mo_loads [vR 12 0 a0, vI x1] S M) fun S2 M2 =>
      bR (refOf S2 a0 24) fun b3 =>
      if 0 ≤ M2 a0 26 ∧ M2 a0 26 < 8 then
          if 0 ≤ M2 a0 26 ∧ M2 a0 26 < 8 then
            bndI (K m_Mo_flag [vR 12 0 a0] S2 (up M2 b3 (M2 a0 26).toNat (w32 ((M2 b3 (M2 a0 26).toNat) + x4)))) fun r4 S4 M4 =>
            if r4 = x2 then
              some (some (vI x4), S4, M4)
            else
              Run K tb_Mo_passes0 36 [vR 12 0 a0, vI x1, vI x2, vI x3, vI x4] [] S4 (up M4 a0 26 (w32 ((M4 a0 26) + 1)))
          else none
        else none
    else
      Run K tb_Mo_passes0 25 [vR 12 0 a0, vI x1, vI x2, vI x3, vI (w32 (x4 + 1))] [] S M := (Run_EE K tb_Mo_passes0 [25, 36] 500 36 _ _ S M).trans rfl
set_option maxRecDepth 100000 in
theorem b_Mo_passGood_0 (K : Cal) (a0 : Nat) (x1 : Int) (x2 : Int) (S : Sp) (M : Mm) : Run K tb_Mo_passGood 0 [vR 12 0 a0, vI x1, vI x2] [] S M =
  bndI (K m_Mo_isShip [vR 12 0 a0, vI x1] S M) fun r1 S1 M1 =>
  if r1 = 0 then
    bndI (K m_Mo_refuse [vR 12 0 a0, vI 1] S1 M1) fun r2 S2 M2 =>
    some (some (vI r2), S2, M2)
  else
    bndI (K m_Mo_isNation [vR 12 0 a0, vI x2] S1 M1) fun r3 S3 M3 =>
    if r3 = 0 then
      bndI (K m_Mo_refuse [vR 12 0 a0, vI 1] S3 M3) fun r4 S4 M4 =>
      some (some (vI r4), S4, M4)
    else
      bndI (K m_Mo_passes0 [vR 12 0 a0, vI x1, vI x2] S3 M3) fun r5 S5 M5 =>
      if r5 < 1 then
        bndI (K m_Mo_refuse [vR 12 0 a0, vI 6] S5 M5) fun r6 S6 M6 =>
        some (some (vI r6), S6, M6)
      else
        bndI (K m_Mo_gives [vR 12 0 a0, vI (M5 a0 26)] S5 M5) fun r7 S7 M7 =>
        some (some (vI r7), S7, M7) := (Run_EE K tb_Mo_passGood [] 500 0 _ _ S M).trans rfl
set_option maxRecDepth 100000 in
theorem b_Mo_peace_0 (K : Cal) (a0 : Nat) (x1 : Int) (S : Sp) (M : Mm) : Run K tb_Mo_peace 0 [vR 12 0 a0, vI x1] [] S M =
  bndI (K m_Mo_isShip [vR 12 0 a0, vI x1] S M) fun r1 S1 M1 =>
  if r1 = 0 then
    bndI (K m_Mo_refuse [vR 12 0 a0, vI 1] S1 M1) fun r2 S2 M2 =>
    some (some (vI r2), S2, M2)
  else
    bndI (K m_Mo_shipOf [vR 12 0 a0, vI x1, vI 0] S1 M1) fun r3 S3 M3 =>
    if r3 = (-1) then
      bndI (K m_Mo_refuse [vR 12 0 a0, vI 7] S3 M3) fun r4 S4 M4 =>
      some (some (vI r4), S4, M4)
    else
      bndI (K m_Mo_peaceBy [vR 12 0 a0, vI x1] S3 M3) fun r5 S5 M5 =>
      bndI (K m_Mo_orNone [vR 12 0 a0, vI r5] S5 M5) fun r6 S6 M6 =>
      some (some (vI r6), S6, M6) := (Run_EE K tb_Mo_peace [] 500 0 _ _ S M).trans rfl
set_option maxRecDepth 100000 in
theorem b_Mo_peaceBy_0 (K : Cal) (a0 : Nat) (x1 : Int) (S : Sp) (M : Mm) : Run K tb_Mo_peaceBy 0 [vR 12 0 a0, vI x1, vU, vU, vU, vU, vU] [] S M =
  bndI (K m_Mo_shipOf [vR 12 0 a0, vI x1, vI 0] S M) fun r1 S1 M1 =>
  bndI (K m_Mo_roomOf [vR 12 0 a0, vI x1] S1 M1) fun r2 S2 M2 =>
  Run K tb_Mo_peaceBy 26 [vR 12 0 a0, vI x1, vI r1, vI r2, vI (-1), vI 0, vU] [] S2 (up M2 a0 27 1000000) := (Run_EE K tb_Mo_peaceBy [26] 500 0 _ _ S M).trans rfl
set_option maxRecDepth 100000 in
theorem b_Mo_peaceBy_26 (K : Cal) (a0 : Nat) (x1 : Int) (x2 : Int) (x3 : Int) (x4 : Int) (x5 : Int) (d6 : AV) (S : Sp) (M : Mm) : Run K tb_Mo_peaceBy 26 [vR 12 0 a0, vI x1, vI x2, vI x3, vI x4, vI x5, d6] [] S M =
  bR (refOf S a0 0) fun b1 =>
  if x5 < M b1 1 then
      bndV (K m_Mo_loads [vR 12 0 a0, vI x1] S M) fun S2 M2 =>
      bR (refOf S2 a0 24) fun b3 =>
      if 0 ≤ x5 ∧ x5 < 8 then
          if 0 ≤ x5 ∧ x5 < 8 then
            bndI (K m_Mo_flag [vR 12 0 a0] S2 (up M2 b3 x5.toNat (w32 ((M2 b3 x5.toNat) + x3)))) fun r4 S4 M4 =>
            bndI (K m_Mo_priceOf [vR 12 0 a0, vI x2, vI x5] S4 M4) fun r5 S5 M5 =>
            if r5 = 0 then
              Run K tb_Mo_peaceBy 26 [vR 12 0 a0, vI x1, vI x2, vI x3, vI x4, vI (w32 (x5 + 1)), vI r4] [] S5 M5
            else
              bndI (K m_Mo_priceOf [vR 12 0 a0, vI x2, vI x5] S5 M5) fun r6 S6 M6 =>
              if w32 (x3 * r6) < M6 a0 27 then
                if r4 = (-1) then
                  bndI (K m_Mo_priceOf [vR 12 0 a0, vI x2, vI x5] S6 M6) fun r7 S7 M7 =>
                  Run K tb_Mo_peaceBy 26 [vR 12 0 a0, vI x1, vI x2, vI x3, vI x5, vI (w32 (x5 + 1)), vI r4] [] S7 (up M7 a0 27 (w32 (x3 * r7)))
                else
                  bR (refOf S6 a0 0) fun b8 =>
                  bndI (K m_Mo_nationRow [vI r4] S6 M6) fun r9 S9 M9 =>
                    if 0 ≤ w32 (r9 + 3) ∧ w32 (r9 + 3) < 4004 then
                      if M9 b8 (w32 (r9 + 3)).toNat = 0 then
                        bndI (K m_Mo_priceOf [vR 12 0 a0, vI x2, vI x5] S9 M9) fun r10 S10 M10 =>
                        Run K tb_Mo_peaceBy 26 [vR 12 0 a0, vI x1, vI x2, vI x3, vI x5, vI (w32 (x5 + 1)), vI r4] [] S10 (up M10 a0 27 (w32 (x3 * r10)))
                      else
                        Run K tb_Mo_peaceBy 26 [vR 12 0 a0, vI x1, vI x2, vI x3, vI x4, vI (w32 (x5 + 1)), vI r4] [] S9 M9
                    else none
              else
                Run K tb_Mo_peaceBy 26 [vR 12 0 a0, vI x1, vI x2, vI x3, vI x4, vI (w32 (x5 + 1)), vI r4] [] S6 M6
          else none
        else none
    else
      some (some (vI x4), S, M) := (Run_EE K tb_Mo_peaceBy [26] 500 26 _ _ S M).trans rfl
set_option maxRecDepth 100000 in
theorem b_Mo_peaceCost_0 (K : Cal) (a0 : Nat) (x1 : Int) (S : Sp) (M : Mm) : Run K tb_Mo_peaceCost 0 [vR 12 0 a0, vI x1] [] S M =
  bndI (K m_Mo_isShip [vR 12 0 a0, vI x1] S M) fun r1 S1 M1 =>
  if r1 = 0 then
    bndI (K m_Mo_refuse [vR 12 0 a0, vI 1] S1 M1) fun r2 S2 M2 =>
    some (some (vI r2), S2, M2)
  else
    bndI (K m_Mo_shipOf [vR 12 0 a0, vI x1, vI 0] S1 M1) fun r3 S3 M3 =>
    if r3 = (-1) then
      bndI (K m_Mo_refuse [vR 12 0 a0, vI 7] S3 M3) fun r4 S4 M4 =>
      some (some (vI r4), S4, M4)
    else
      bndI (K m_Mo_peaceBy [vR 12 0 a0, vI x1] S3 M3) fun r5 S5 M5 =>
      if r5 = (-1) then
        bndI (K m_Mo_refuse [vR 12 0 a0, vI 6] S5 M5) fun r6 S6 M6 =>
        some (some (vI r6), S6, M6)
      else
        bndI (K m_Mo_gives [vR 12 0 a0, vI (M5 a0 27)] S5 M5) fun r7 S7 M7 =>
        some (some (vI r7), S7, M7) := (Run_EE K tb_Mo_peaceCost [] 500 0 _ _ S M).trans rfl
set_option maxRecDepth 100000 in
theorem b_Mo_voyage_0 (K : Cal) (a0 : Nat) (x1 : Int) (x2 : Int) (S : Sp) (M : Mm) : Run K tb_Mo_voyage 0 [vR 12 0 a0, vI x1, vI x2, vU] [] S M =
  bndI (K m_Mo_wrongVoyage [vR 12 0 a0, vI x1, vI x2] S M) fun r1 S1 M1 =>
  if 0 < r1 then
    bndI (K m_Mo_refuse [vR 12 0 a0, vI r1] S1 M1) fun r2 S2 M2 =>
    some (some (vI r2), S2, M2)
  else
    bndI (K m_Mo_gives [vR 12 0 a0, vI (M1 a0 30)] S1 M1) fun r3 S3 M3 =>
    some (some (vI r3), S3, M3) := (Run_EE K tb_Mo_voyage [] 500 0 _ _ S M).trans rfl
set_option maxRecDepth 100000 in
theorem b_Mo_wrongVoyage_0 (K : Cal) (a0 : Nat) (x1 : Int) (x2 : Int) (S : Sp) (M : Mm) : Run K tb_Mo_wrongVoyage 0 [vR 12 0 a0, vI x1, vI x2] [] S M =
  bndI (K m_Mo_isShip [vR 12 0 a0, vI x1] S M) fun r1 S1 M1 =>
  if r1 = 0 then
    some (some (vI 1), S1, M1)
  else
    bndI (K m_Mo_isFrom [vL x2, vL 1, vL 3] S1 M1) fun r2 S2 M2 =>
    if r2 = 0 then
      some (some (vI 1), S2, M2)
    else
      bndI (K m_Mo_shipOf [vR 12 0 a0, vI x1, vI 0] S2 M2) fun r3 S3 M3 =>
      if r3 = (-1) then
        some (some (vI 7), S3, M3)
      else
        bndV (K m_Mo_laysVoyage [vR 12 0 a0, vI x1, vI x2] S3 M3) fun S4 M4 =>
        if M4 a0 30 = (-1) then
          some (some (vI 6), S4, M4)
        else
          some (some (vI 0), S4, M4) := (Run_EE K tb_Mo_wrongVoyage [] 500 0 _ _ S M).trans rfl
set_option maxRecDepth 100000 in
theorem b_Mo_laysVoyage_0 (K : Cal) (a0 : Nat) (x1 : Int) (x2 : Int) (S : Sp) (M : Mm) : Run K tb_Mo_laysVoyage 0 [vR 12 0 a0, vI x1, vI x2, vU] [] S M =
  bndV (K m_Mo_keepsShip [vR 12 0 a0, vI x1, vI 0] S (up M a0 30 (-1))) fun S1 M1 =>
  bR (refOf S1 a0 28) fun b2 =>
  Run K tb_Mo_laysVoyage 20 [vR 12 0 a0, vI x1, vI x2, vI 0] [] S1 (up M1 b2 0 (-1)) := (Run_EE K tb_Mo_laysVoyage [20] 500 0 _ _ S M).trans rfl
set_option maxRecDepth 100000 in
theorem b_Mo_laysVoyage_20 (K : Cal) (a0 : Nat) (x1 : Int) (x2 : Int) (x3 : Int) (S : Sp) (M : Mm) : Run K tb_Mo_laysVoyage 20 [vR 12 0 a0, vI x1, vI x2, vI x3] [] S M =
  if x3 < 0 then
    bndV (K m_Mo_givesBack [vR 12 0 a0, vI x1, vI 0] S M) fun S1 M1 =>
    some (none, S1, M1)
  else
    bndV (K m_Mo_givesBack [vR 12 0 a0, vI x1, vI x3] S M) fun S2 M2 =>
    bR (refOf S2 a0 28) fun b3 =>
    if 0 ≤ x3 ∧ x3 < 4 then
        if 0 ≤ x3 ∧ x3 < 4 then
          bR (refOf S2 a0 28) fun b4 =>
          if 0 ≤ x3 ∧ x3 < 4 then
              if (up M2 b3 x3.toNat (w32 ((M2 b3 x3.toNat) + 1))) b4 x3.toNat = 54 then
                Run K tb_Mo_laysVoyage 20 [vR 12 0 a0, vI x1, vI x2, vI (w32 (x3 + (-1)))] [] S2 (up M2 b3 x3.toNat (w32 ((M2 b3 x3.toNat) + 1)))
              else
                bR (refOf S2 a0 28) fun b5 =>
                if 0 ≤ x3 ∧ x3 < 4 then
                    bR (refOf S2 a0 28) fun b6 =>
                    if 0 ≤ x3 ∧ x3 < 4 then
                        bndI (K m_Mo_goesLeg [vR 12 0 a0, vI x1, vI (w32 (Int.tdiv ((up M2 b3 x3.toNat (w32 ((M2 b3 x3.toNat) + 1))) b5 x3.toNat) 9)), vI (Int.tmod ((up M2 b3 x3.toNat (w32 ((M2 b3 x3.toNat) + 1))) b6 x3.toNat) 9)] S2 (up M2 b3 x3.toNat (w32 ((M2 b3 x3.toNat) + 1)))) fun r7 S7 M7 =>
                        if r7 = 0 then
                          Run K tb_Mo_laysVoyage 20 [vR 12 0 a0, vI x1, vI x2, vI x3] [] S7 M7
                        else
                          if w32 (x3 + 1) < x2 then
                            bndV (K m_Mo_keepsShip [vR 12 0 a0, vI x1, vI (w32 (x3 + 1))] S7 M7) fun S8 M8 =>
                            bR (refOf S8 a0 28) fun b9 =>
                            if 0 ≤ w32 (x3 + 1) ∧ w32 (x3 + 1) < 4 then
                                Run K tb_Mo_laysVoyage 20 [vR 12 0 a0, vI x1, vI x2, vI (w32 (x3 + 1))] [] S8 (up M8 b9 (w32 (x3 + 1)).toNat (-1))
                              else none
                          else
                            bndV (K m_Mo_sellsAll [vR 12 0 a0, vI x1] S7 M7) fun S10 M10 =>
                            bndI (K m_Mo_shipOf [vR 12 0 a0, vI x1, vI 4] S10 M10) fun r11 S11 M11 =>
                            if M11 a0 30 < r11 then
                              bndI (K m_Mo_shipOf [vR 12 0 a0, vI x1, vI 4] S11 M11) fun r12 S12 M12 =>
                              bR (refOf S12 a0 28) fun b13 =>
                              Run K tb_Mo_laysVoyage 20 [vR 12 0 a0, vI x1, vI x2, vI x3] [] S12 (up (up M12 a0 30 r12) a0 31 ((up M12 a0 30 r12) b13 0))
                            else
                              Run K tb_Mo_laysVoyage 20 [vR 12 0 a0, vI x1, vI x2, vI x3] [] S11 M11
                      else none
                  else none
            else none
        else none
      else none := (Run_EE K tb_Mo_laysVoyage [20] 500 20 _ _ S M).trans rfl
set_option maxRecDepth 100000 in
theorem b_Mo_keepsShip_0 (K : Cal) (a0 : Nat) (x1 : Int) (x2 : Int) (S : Sp) (M : Mm) : Run K tb_Mo_keepsShip 0 [vR 12 0 a0, vI x1, vI x2, vU] [] S M =
  Run K tb_Mo_keepsShip 2 [vR 12 0 a0, vI x1, vI x2, vI 0] [] S M := (Run_EE K tb_Mo_keepsShip [2] 500 0 _ _ S M).trans rfl
set_option maxRecDepth 100000 in
theorem b_Mo_keepsShip_2 (K : Cal) (a0 : Nat) (x1 : Int) (x2 : Int) (x3 : Int) (S : Sp) (M : Mm) : Run K tb_Mo_keepsShip 2 [vR 12 0 a0, vI x1, vI x2, vI x3] [] S M =
  if x3 < 15 then
    bR (refOf S a0 29) fun b1 =>
    bR (refOf S a0 0) fun b2 =>
      bndI (K m_Mo_shipRow [vI x1] S M) fun r3 S3 M3 =>
        if 0 ≤ w32 (r3 + x3) ∧ w32 (r3 + x3) < 4004 then
          if 0 ≤ w32 ((w32 (15 * x2)) + x3) ∧ w32 ((w32 (15 * x2)) + x3) < 60 then
            Run K tb_Mo_keepsShip 2 [vR 12 0 a0, vI x1, vI x2, vI (w32 (x3 + 1))] [] S3 (up M3 b1 (w32 ((w32 (15 * x2)) + x3)).toNat (M3 b2 (w32 (r3 + x3)).toNat))
          else none
        else none
  else
    some (none, S, M) := (Run_EE K tb_Mo_keepsShip [2] 500 2 _ _ S M).trans rfl
set_option maxRecDepth 100000 in
theorem b_Mo_givesBack_0 (K : Cal) (a0 : Nat) (x1 : Int) (x2 : Int) (S : Sp) (M : Mm) : Run K tb_Mo_givesBack 0 [vR 12 0 a0, vI x1, vI x2, vU] [] S M =
  Run K tb_Mo_givesBack 2 [vR 12 0 a0, vI x1, vI x2, vI 0] [] S M := (Run_EE K tb_Mo_givesBack [2] 500 0 _ _ S M).trans rfl
set_option maxRecDepth 100000 in
theorem b_Mo_givesBack_2 (K : Cal) (a0 : Nat) (x1 : Int) (x2 : Int) (x3 : Int) (S : Sp) (M : Mm) : Run K tb_Mo_givesBack 2 [vR 12 0 a0, vI x1, vI x2, vI x3] [] S M =
  if x3 < 15 then
    bR (refOf S a0 0) fun b1 =>
    bndI (K m_Mo_shipRow [vI x1] S M) fun r2 S2 M2 =>
      bR (refOf S2 a0 29) fun b3 =>
      if 0 ≤ w32 ((w32 (15 * x2)) + x3) ∧ w32 ((w32 (15 * x2)) + x3) < 60 then
          if 0 ≤ w32 (r2 + x3) ∧ w32 (r2 + x3) < 4004 then
            Run K tb_Mo_givesBack 2 [vR 12 0 a0, vI x1, vI x2, vI (w32 (x3 + 1))] [] S2 (up M2 b1 (w32 (r2 + x3)).toNat (M2 b3 (w32 ((w32 (15 * x2)) + x3)).toNat))
          else none
        else none
  else
    some (none, S, M) := (Run_EE K tb_Mo_givesBack [2] 500 2 _ _ S M).trans rfl
set_option maxRecDepth 100000 in
theorem b_Mo_goesLeg_0 (K : Cal) (a0 : Nat) (x1 : Int) (x2 : Int) (x3 : Int) (S : Sp) (M : Mm) : Run K tb_Mo_goesLeg 0 [vR 12 0 a0, vI x1, vI x2, vI x3, vU, vU] [] S M =
  bndI (K m_Mo_shipOf [vR 12 0 a0, vI x1, vI 0] S M) fun r1 S1 M1 =>
  bndI (K m_Mo_isPort [vR 12 0 a0, vI x2] S1 M1) fun r2 S2 M2 =>
  if r2 = 0 then
    some (some (vI 0), S2, M2)
  else
    if r1 = x2 then
      some (some (vI 0), S2, M2)
    else
      bndI (K m_Mo_wayOf [vR 12 0 a0, vI r1, vI x2] S2 M2) fun r3 S3 M3 =>
      if r3 = 0 then
        some (some (vI 0), S3, M3)
      else
        bndV (K m_Mo_sellsAll [vR 12 0 a0, vI x1] S3 M3) fun S4 M4 =>
        if x3 < 8 then
          bndI (K m_Mo_isGood [vR 12 0 a0, vI x3] S4 M4) fun r5 S5 M5 =>
          if r5 = 0 then
            some (some (vI 0), S5, M5)
          else
            bndI (K m_Mo_priceOf [vR 12 0 a0, vI r1, vI x3] S5 M5) fun r6 S6 M6 =>
            if r6 = 0 then
              some (some (vI 0), S6, M6)
            else
              bndI (K m_Mo_roomOf [vR 12 0 a0, vI x1] S6 M6) fun r7 S7 M7 =>
              bndI (K m_Mo_shipOf [vR 12 0 a0, vI x1, vI 4] S7 M7) fun r8 S8 M8 =>
              bndI (K m_Mo_priceOf [vR 12 0 a0, vI r1, vI x3] S8 M8) fun r9 S9 M9 =>
              if r9 = 0 then none else
                if min r7 (w32 (Int.tdiv r8 r9)) = 0 then
                  some (some (vI 0), S9, M9)
                else
                  bndI (K m_Mo_buys [vR 12 0 a0, vI x1, vI x3, vI (min r7 (w32 (Int.tdiv r8 r9)))] S9 M9) fun r10 S10 M10 =>
                  bndI (K m_Mo_sails [vR 12 0 a0, vI x1, vI x2] S10 M10) fun r11 S11 M11 =>
                  Run K tb_Mo_goesLeg 112 [vR 12 0 a0, vI x1, vI x2, vI x3, vI r1, vI (min r7 (w32 (Int.tdiv r8 r9)))] [] S11 M11
        else
          bndI (K m_Mo_sails [vR 12 0 a0, vI x1, vI x2] S4 M4) fun r12 S12 M12 =>
          Run K tb_Mo_goesLeg 112 [vR 12 0 a0, vI x1, vI x2, vI x3, vI r1, vU] [] S12 M12 := (Run_EE K tb_Mo_goesLeg [112] 500 0 _ _ S M).trans rfl
set_option maxRecDepth 100000 in
theorem b_Mo_goesLeg_112 (K : Cal) (a0 : Nat) (x1 : Int) (x2 : Int) (x3 : Int) (x4 : Int) (d5 : AV) (S : Sp) (M : Mm) : Run K tb_Mo_goesLeg 112 [vR 12 0 a0, vI x1, vI x2, vI x3, vI x4, d5] [] S M =
  bndI (K m_Mo_shipOf [vR 12 0 a0, vI x1, vI 0] S M) fun r1 S1 M1 =>
  if r1 = (-1) then
    bndI (K m_Mo_passes [vR 12 0 a0, vI x1] S1 M1) fun r2 S2 M2 =>
    Run K tb_Mo_goesLeg 112 [vR 12 0 a0, vI x1, vI x2, vI x3, vI x4, d5] [] S2 M2
  else
    some (some (vI 1), S1, M1) := (Run_EE K tb_Mo_goesLeg [112] 500 112 _ _ S M).trans rfl
set_option maxRecDepth 100000 in
theorem b_Mo_sellsAll_0 (K : Cal) (a0 : Nat) (x1 : Int) (S : Sp) (M : Mm) : Run K tb_Mo_sellsAll 0 [vR 12 0 a0, vI x1, vU] [] S M =
  Run K tb_Mo_sellsAll 2 [vR 12 0 a0, vI x1, vI 0] [] S M := (Run_EE K tb_Mo_sellsAll [2] 500 0 _ _ S M).trans rfl
set_option maxRecDepth 100000 in
theorem b_Mo_sellsAll_2 (K : Cal) (a0 : Nat) (x1 : Int) (x2 : Int) (S : Sp) (M : Mm) : Run K tb_Mo_sellsAll 2 [vR 12 0 a0, vI x1, vI x2] [] S M =
  bR (refOf S a0 0) fun b1 =>
  if x2 < M b1 1 then
      bR (refOf S a0 0) fun b2 =>
      bndI (K m_Mo_loadRow [vR 12 0 a0, vI x1, vI x2] S M) fun r3 S3 M3 =>
        if 0 ≤ r3 ∧ r3 < 4004 then
          if 0 < M3 b2 r3.toNat then
            bR (refOf S3 a0 0) fun b4 =>
            bndI (K m_Mo_loadRow [vR 12 0 a0, vI x1, vI x2] S3 M3) fun r5 S5 M5 =>
              if 0 ≤ r5 ∧ r5 < 4004 then
                bndI (K m_Mo_sells [vR 12 0 a0, vI x1, vI x2, vI (M5 b4 r5.toNat)] S5 M5) fun r6 S6 M6 =>
                Run K tb_Mo_sellsAll 2 [vR 12 0 a0, vI x1, vI (w32 (x2 + 1))] [] S6 M6
              else none
          else
            Run K tb_Mo_sellsAll 2 [vR 12 0 a0, vI x1, vI (w32 (x2 + 1))] [] S3 M3
        else none
    else
      some (none, S, M) := (Run_EE K tb_Mo_sellsAll [2] 500 2 _ _ S M).trans rfl
set_option maxRecDepth 100000 in
theorem b_Mo_voyageAt_0 (K : Cal) (a0 : Nat) (x1 : Int) (x2 : Int) (x3 : Int) (S : Sp) (M : Mm) : Run K tb_Mo_voyageAt 0 [vR 12 0 a0, vI x1, vI x2, vI x3, vU] [] S M =
  if x3 < 0 then
    bndI (K m_Mo_refuse [vR 12 0 a0, vI 1] S M) fun r1 S1 M1 =>
    some (some (vI r1), S1, M1)
  else
    if 1 < x3 then
      bndI (K m_Mo_refuse [vR 12 0 a0, vI 1] S M) fun r2 S2 M2 =>
      some (some (vI r2), S2, M2)
    else
      bndI (K m_Mo_wrongVoyage [vR 12 0 a0, vI x1, vI x2] S M) fun r3 S3 M3 =>
      if 0 < r3 then
        bndI (K m_Mo_refuse [vR 12 0 a0, vI r3] S3 M3) fun r4 S4 M4 =>
        some (some (vI r4), S4, M4)
      else
        if x3 = 0 then
          bndI (K m_Mo_gives [vR 12 0 a0, vI (w32 (Int.tdiv (M3 a0 31) 9))] S3 M3) fun r5 S5 M5 =>
          some (some (vI r5), S5, M5)
        else
          if Int.tmod (M3 a0 31) 9 = 8 then
            bndI (K m_Mo_gives [vR 12 0 a0, vI (-1)] S3 M3) fun r6 S6 M6 =>
            some (some (vI r6), S6, M6)
          else
            bndI (K m_Mo_gives [vR 12 0 a0, vI (Int.tmod (M3 a0 31) 9)] S3 M3) fun r7 S7 M7 =>
            some (some (vI r7), S7, M7) := (Run_EE K tb_Mo_voyageAt [] 500 0 _ _ S M).trans rfl
set_option maxRecDepth 100000 in
theorem b_Mo_soonest_0 (K : Cal) (a0 : Nat) (x1 : Int) (x2 : Int) (S : Sp) (M : Mm) : Run K tb_Mo_soonest 0 [vR 12 0 a0, vI x1, vI x2] [] S M =
  bndI (K m_Mo_isPort [vR 12 0 a0, vI x1] S M) fun r1 S1 M1 =>
  if r1 = 0 then
    bndI (K m_Mo_refuse [vR 12 0 a0, vI 1] S1 M1) fun r2 S2 M2 =>
    some (some (vI r2), S2, M2)
  else
    bndI (K m_Mo_isPort [vR 12 0 a0, vI x2] S1 M1) fun r3 S3 M3 =>
    if r3 = 0 then
      bndI (K m_Mo_refuse [vR 12 0 a0, vI 1] S3 M3) fun r4 S4 M4 =>
      some (some (vI r4), S4, M4)
    else
      bndV (K m_Mo_laysDays [vR 12 0 a0, vI x2] S3 M3) fun S5 M5 =>
      bR (refOf S5 a0 32) fun b6 =>
      if 0 ≤ x1 ∧ x1 < 6 then
          if M5 b6 x1.toNat < 1000000 then
            bR (refOf S5 a0 32) fun b7 =>
            if 0 ≤ x1 ∧ x1 < 6 then
                bndI (K m_Mo_gives [vR 12 0 a0, vI (M5 b7 x1.toNat)] S5 M5) fun r8 S8 M8 =>
                some (some (vI r8), S8, M8)
              else none
          else
            bndI (K m_Mo_refuse [vR 12 0 a0, vI 6] S5 M5) fun r9 S9 M9 =>
            some (some (vI r9), S9, M9)
        else none := (Run_EE K tb_Mo_soonest [] 500 0 _ _ S M).trans rfl
set_option maxRecDepth 100000 in
theorem b_Mo_laysDays_0 (K : Cal) (a0 : Nat) (x1 : Int) (S : Sp) (M : Mm) : Run K tb_Mo_laysDays 0 [vR 12 0 a0, vI x1, vU, vU, vU] [] S M =
  Run K tb_Mo_laysDays 2 [vR 12 0 a0, vI x1, vI 0, vU, vU] [] S M := (Run_EE K tb_Mo_laysDays [2, 34, 42, 55] 500 0 _ _ S M).trans rfl
set_option maxRecDepth 100000 in
theorem b_Mo_laysDays_2 (K : Cal) (a0 : Nat) (x1 : Int) (x2 : Int) (d3 : AV) (d4 : AV) (S : Sp) (M : Mm) : Run K tb_Mo_laysDays 2 [vR 12 0 a0, vI x1, vI x2, d3, d4] [] S M =
  if x2 < 6 then
    bR (refOf S a0 32) fun b1 =>
    if x2 = x1 then
        if 0 ≤ x2 ∧ x2 < 6 then
          Run K tb_Mo_laysDays 2 [vR 12 0 a0, vI x1, vI (w32 (x2 + 1)), d3, d4] [] S (up M b1 x2.toNat 0)
        else none
      else
        if 0 ≤ x2 ∧ x2 < 6 then
          Run K tb_Mo_laysDays 2 [vR 12 0 a0, vI x1, vI (w32 (x2 + 1)), d3, d4] [] S (up M b1 x2.toNat 1000000)
        else none
  else
    Run K tb_Mo_laysDays 34 [vR 12 0 a0, vI x1, vI 0, d3, d4] [] S M := (Run_EE K tb_Mo_laysDays [2, 34, 42, 55] 500 2 _ _ S M).trans rfl
set_option maxRecDepth 100000 in
theorem b_Mo_laysDays_34 (K : Cal) (a0 : Nat) (x1 : Int) (x2 : Int) (d3 : AV) (d4 : AV) (S : Sp) (M : Mm) : Run K tb_Mo_laysDays 34 [vR 12 0 a0, vI x1, vI x2, d3, d4] [] S M =
  if x2 < 6 then
    Run K tb_Mo_laysDays 42 [vR 12 0 a0, vI x1, vI x2, vI 0, d4] [] S M
  else
    some (none, S, M) := (Run_EE K tb_Mo_laysDays [2, 34, 42, 55] 500 34 _ _ S M).trans rfl
set_option maxRecDepth 100000 in
theorem b_Mo_laysDays_42 (K : Cal) (a0 : Nat) (x1 : Int) (x2 : Int) (x3 : Int) (d4 : AV) (S : Sp) (M : Mm) : Run K tb_Mo_laysDays 42 [vR 12 0 a0, vI x1, vI x2, vI x3, d4] [] S M =
  bR (refOf S a0 0) fun b1 =>
  if x3 < M b1 2 then
      Run K tb_Mo_laysDays 55 [vR 12 0 a0, vI x1, vI x2, vI x3, vI 0] [] S M
    else
      Run K tb_Mo_laysDays 34 [vR 12 0 a0, vI x1, vI (w32 (x2 + 1)), vI x3, d4] [] S M := (Run_EE K tb_Mo_laysDays [2, 34, 42, 55] 500 42 _ _ S M).trans rfl
set_option maxRecDepth 100000 in
theorem b_Mo_laysDays_55 (K : Cal) (a0 : Nat) (x1 : Int) (x2 : Int) (x3 : Int) (x4 : Int) (S : Sp) (M : Mm) : Run K tb_Mo_laysDays 55 [vR 12 0 a0, vI x1, vI x2, vI x3, vI x4] [] S M =
  bR (refOf S a0 0) fun b1 =>
  if x4 < M b1 2 then
      bndI (K m_Mo_wayOf [vR 12 0 a0, vI x3, vI x4] S M) fun r2 S2 M2 =>
      if 0 < r2 then
        bR (refOf S2 a0 32) fun b3 =>
        bR (refOf S2 a0 32) fun b4 =>
          if 0 ≤ x3 ∧ x3 < 6 then
              bndI (K m_Mo_wayOf [vR 12 0 a0, vI x3, vI x4] S2 M2) fun r5 S5 M5 =>
              bR (refOf S5 a0 32) fun b6 =>
              if 0 ≤ x4 ∧ x4 < 6 then
                  if 0 ≤ x3 ∧ x3 < 6 then
                    Run K tb_Mo_laysDays 55 [vR 12 0 a0, vI x1, vI x2, vI x3, vI (w32 (x4 + 1))] [] S5 (up M5 b3 x3.toNat (min (M2 b4 x3.toNat) (w32 (r5 + (M5 b6 x4.toNat)))))
                  else none
                else none
            else none
      else
        Run K tb_Mo_laysDays 55 [vR 12 0 a0, vI x1, vI x2, vI x3, vI (w32 (x4 + 1))] [] S2 M2
    else
      Run K tb_Mo_laysDays 42 [vR 12 0 a0, vI x1, vI x2, vI (w32 (x3 + 1)), vI x4] [] S M := (Run_EE K tb_Mo_laysDays [2, 34, 42, 55] 500 55 _ _ S M).trans rfl
set_option maxRecDepth 100000 in
theorem b_Mo_next_0 (K : Cal) (a0 : Nat) (x1 : Int) (x2 : Int) (S : Sp) (M : Mm) : Run K tb_Mo_next 0 [vR 12 0 a0, vI x1, vI x2, vU] [] S M =
  bndI (K m_Mo_areTwo [vR 12 0 a0, vI x1, vI x2] S M) fun r1 S1 M1 =>
  if r1 = 0 then
    bndI (K m_Mo_refuse [vR 12 0 a0, vI 1] S1 M1) fun r2 S2 M2 =>
    some (some (vI r2), S2, M2)
  else
    bndV (K m_Mo_laysDays [vR 12 0 a0, vI x2] S1 M1) fun S3 M3 =>
    Run K tb_Mo_next 22 [vR 12 0 a0, vI x1, vI x2, vI 0] [] S3 M3 := (Run_EE K tb_Mo_next [22] 500 0 _ _ S M).trans rfl
set_option maxRecDepth 100000 in
theorem b_Mo_next_22 (K : Cal) (a0 : Nat) (x1 : Int) (x2 : Int) (x3 : Int) (S : Sp) (M : Mm) : Run K tb_Mo_next 22 [vR 12 0 a0, vI x1, vI x2, vI x3] [] S M =
  bR (refOf S a0 0) fun b1 =>
  if x3 < M b1 2 then
      bR (refOf S a0 32) fun b2 =>
      if 0 ≤ x1 ∧ x1 < 6 then
          if M b2 x1.toNat < 1000000 then
            bndI (K m_Mo_wayOf [vR 12 0 a0, vI x1, vI x3] S M) fun r3 S3 M3 =>
            if 0 < r3 then
              bndI (K m_Mo_wayOf [vR 12 0 a0, vI x1, vI x3] S3 M3) fun r4 S4 M4 =>
              bR (refOf S4 a0 32) fun b5 =>
              if 0 ≤ x3 ∧ x3 < 6 then
                  bR (refOf S4 a0 32) fun b6 =>
                  if 0 ≤ x1 ∧ x1 < 6 then
                      if w32 (r4 + (M4 b5 x3.toNat)) = M4 b6 x1.toNat then
                        bndI (K m_Mo_gives [vR 12 0 a0, vI x3] S4 M4) fun r7 S7 M7 =>
                        some (some (vI r7), S7, M7)
                      else
                        Run K tb_Mo_next 22 [vR 12 0 a0, vI x1, vI x2, vI (w32 (x3 + 1))] [] S4 M4
                    else none
                else none
            else
              Run K tb_Mo_next 22 [vR 12 0 a0, vI x1, vI x2, vI (w32 (x3 + 1))] [] S3 M3
          else
            bndI (K m_Mo_refuse [vR 12 0 a0, vI 6] S M) fun r8 S8 M8 =>
            some (some (vI r8), S8, M8)
        else none
    else
      bndI (K m_Mo_refuse [vR 12 0 a0, vI 6] S M) fun r9 S9 M9 =>
      some (some (vI r9), S9, M9) := (Run_EE K tb_Mo_next [22] 500 22 _ _ S M).trans rfl
set_option maxRecDepth 100000 in
theorem b_Mo_reach_0 (K : Cal) (a0 : Nat) (x1 : Int) (S : Sp) (M : Mm) : Run K tb_Mo_reach 0 [vR 12 0 a0, vI x1, vU, vU] [] S M =
  bndI (K m_Mo_isPort [vR 12 0 a0, vI x1] S M) fun r1 S1 M1 =>
  if r1 = 0 then
    bndI (K m_Mo_refuse [vR 12 0 a0, vI 1] S1 M1) fun r2 S2 M2 =>
    some (some (vI r2), S2, M2)
  else
    bndV (K m_Mo_laysDays [vR 12 0 a0, vI x1] S1 M1) fun S3 M3 =>
    Run K tb_Mo_reach 23 [vR 12 0 a0, vI x1, vI 0, vI 0] [] S3 M3 := (Run_EE K tb_Mo_reach [23] 500 0 _ _ S M).trans rfl
set_option maxRecDepth 100000 in
theorem b_Mo_reach_23 (K : Cal) (a0 : Nat) (x1 : Int) (x2 : Int) (x3 : Int) (S : Sp) (M : Mm) : Run K tb_Mo_reach 23 [vR 12 0 a0, vI x1, vI x2, vI x3] [] S M =
  bR (refOf S a0 0) fun b1 =>
  if x3 < M b1 2 then
      bR (refOf S a0 32) fun b2 =>
      if 0 ≤ x3 ∧ x3 < 6 then
          if M b2 x3.toNat < 1000000 then
            Run K tb_Mo_reach 23 [vR 12 0 a0, vI x1, vI (or32 x2 (shl32 1 x3)), vI (w32 (x3 + 1))] [] S M
          else
            Run K tb_Mo_reach 23 [vR 12 0 a0, vI x1, vI (or32 x2 0), vI (w32 (x3 + 1))] [] S M
        else none
    else
      bndI (K m_Mo_gives [vR 12 0 a0, vI x2] S M) fun r3 S3 M3 =>
      some (some (vI r3), S3, M3) := (Run_EE K tb_Mo_reach [23] 500 23 _ _ S M).trans rfl
set_option maxRecDepth 100000 in
theorem b_Mo_best_0 (K : Cal) (a0 : Nat) (x1 : Int) (x2 : Int) (S : Sp) (M : Mm) : Run K tb_Mo_best 0 [vR 12 0 a0, vI x1, vI x2, vU, vU, vU] [] S M =
  bndI (K m_Mo_areTwo [vR 12 0 a0, vI x1, vI x2] S M) fun r1 S1 M1 =>
  if r1 = 0 then
    bndI (K m_Mo_refuse [vR 12 0 a0, vI 1] S1 M1) fun r2 S2 M2 =>
    some (some (vI r2), S2, M2)
  else
    Run K tb_Mo_best 23 [vR 12 0 a0, vI x1, vI x2, vI (-1), vI 0, vI 0] [] S1 M1 := (Run_EE K tb_Mo_best [23] 500 0 _ _ S M).trans rfl
set_option maxRecDepth 100000 in
theorem b_Mo_best_23 (K : Cal) (a0 : Nat) (x1 : Int) (x2 : Int) (x3 : Int) (x4 : Int) (x5 : Int) (S : Sp) (M : Mm) : Run K tb_Mo_best 23 [vR 12 0 a0, vI x1, vI x2, vI x3, vI x4, vI x5] [] S M =
  bR (refOf S a0 0) fun b1 =>
  if x5 < M b1 1 then
      bndI (K m_Mo_priceOf [vR 12 0 a0, vI x1, vI x5] S M) fun r2 S2 M2 =>
      if r2 = 0 then
        Run K tb_Mo_best 23 [vR 12 0 a0, vI x1, vI x2, vI x3, vI x4, vI (w32 (x5 + 1))] [] S2 M2
      else
        bndI (K m_Mo_priceOf [vR 12 0 a0, vI x2, vI x5] S2 M2) fun r3 S3 M3 =>
        bndI (K m_Mo_priceOf [vR 12 0 a0, vI x1, vI x5] S3 M3) fun r4 S4 M4 =>
        if x4 < w32 (r3 - r4) then
          bndI (K m_Mo_priceOf [vR 12 0 a0, vI x2, vI x5] S4 M4) fun r5 S5 M5 =>
          bndI (K m_Mo_priceOf [vR 12 0 a0, vI x1, vI x5] S5 M5) fun r6 S6 M6 =>
          Run K tb_Mo_best 23 [vR 12 0 a0, vI x1, vI x2, vI x5, vI (w32 (r5 - r6)), vI (w32 (x5 + 1))] [] S6 M6
        else
          Run K tb_Mo_best 23 [vR 12 0 a0, vI x1, vI x2, vI x3, vI x4, vI (w32 (x5 + 1))] [] S4 M4
    else
      bndI (K m_Mo_orNone [vR 12 0 a0, vI x3] S M) fun r7 S7 M7 =>
      some (some (vI r7), S7, M7) := (Run_EE K tb_Mo_best [23] 500 23 _ _ S M).trans rfl
set_option maxRecDepth 100000 in
theorem b_Mo_log_0 (K : Cal) (a0 : Nat) (x1 : Int) (x2 : Int) (x3 : Int) (S : Sp) (M : Mm) : Run K tb_Mo_log 0 [vR 12 0 a0, vI x1, vI x2, vI x3, vU] [] S M =
  bndI (K m_Mo_wrongLog [vR 12 0 a0, vI x1, vI x2, vI x3] S M) fun r1 S1 M1 =>
  if 0 < r1 then
    bndI (K m_Mo_refuse [vR 12 0 a0, vI r1] S1 M1) fun r2 S2 M2 =>
    some (some (vI r2), S2, M2)
  else
    bndV (K m_Mo_laysLog [vR 12 0 a0, vI x1, vI x2, vI x3] S1 M1) fun S3 M3 =>
    bndI (K m_Mo_gives [vR 12 0 a0, vI (M3 a0 33)] S3 M3) fun r4 S4 M4 =>
    some (some (vI r4), S4, M4) := (Run_EE K tb_Mo_log [] 500 0 _ _ S M).trans rfl
set_option maxRecDepth 100000 in
theorem b_Mo_wrongLog_0 (K : Cal) (a0 : Nat) (x1 : Int) (x2 : Int) (x3 : Int) (S : Sp) (M : Mm) : Run K tb_Mo_wrongLog 0 [vR 12 0 a0, vI x1, vI x2, vI x3, vU] [] S M =
  bndI (K m_Mo_isTray [vI x1] S M) fun r1 S1 M1 =>
  if r1 = 0 then
    some (some (vI 1), S1, M1)
  else
    bndI (K m_Mo_isFrom [vL x2, vL 1, vL 20] S1 M1) fun r2 S2 M2 =>
    if r2 = 0 then
      some (some (vI 1), S2, M2)
    else
      bndI (K m_Mo_isFrom [vL x3, vL 2, vL 60] S2 M2) fun r3 S3 M3 =>
      if r3 = 0 then
        some (some (vI 1), S3, M3)
      else
        bR (refOf S3 a0 6) fun b4 =>
        if 0 ≤ x1 ∧ x1 < 4 then
            if M3 b4 x1.toNat = (-1) then
              some (some (vI 2), S3, M3)
            else
              bR (refOf S3 a0 6) fun b5 =>
              if 0 ≤ x1 ∧ x1 < 4 then
                  if M3 b5 x1.toNat < x2 then
                    some (some (vI 3), S3, M3)
                  else
                    Run K tb_Mo_wrongLog 62 [vR 12 0 a0, vI x1, vI x2, vI x3, vI 0] [] S3 M3
                else none
          else none := (Run_EE K tb_Mo_wrongLog [62] 500 0 _ _ S M).trans rfl
set_option maxRecDepth 100000 in
theorem b_Mo_wrongLog_62 (K : Cal) (a0 : Nat) (x1 : Int) (x2 : Int) (x3 : Int) (x4 : Int) (S : Sp) (M : Mm) : Run K tb_Mo_wrongLog 62 [vR 12 0 a0, vI x1, vI x2, vI x3, vI x4] [] S M =
  if x4 < x2 then
    bR (refOf S a0 7) fun b1 =>
    if 0 ≤ w32 ((w32 (60 * x1)) + x4) ∧ w32 ((w32 (60 * x1)) + x4) < 240 then
        bR (refOf S a0 0) fun b2 =>
        bndI (K m_Mo_isFrom [vL (M b1 (w32 ((w32 (60 * x1)) + x4)).toNat), vL (-1), vL (w64 ((M b2 0) - 1))] S M) fun r3 S3 M3 =>
          if r3 = 0 then
            some (some (vI 5), S3, M3)
          else
            Run K tb_Mo_wrongLog 62 [vR 12 0 a0, vI x1, vI x2, vI x3, vI (w32 (x4 + 1))] [] S3 M3
      else none
  else
    some (some (vI 0), S, M) := (Run_EE K tb_Mo_wrongLog [62] 500 62 _ _ S M).trans rfl
set_option maxRecDepth 100000 in
theorem b_Mo_laysLog_0 (K : Cal) (a0 : Nat) (x1 : Int) (x2 : Int) (x3 : Int) (S : Sp) (M : Mm) : Run K tb_Mo_laysLog 0 [vR 12 0 a0, vI x1, vI x2, vI x3, vU, vU, vU, vU] [] S M =
  Run K tb_Mo_laysLog 15 [vR 12 0 a0, vI x1, vI x2, vI x3, vI 0, vU, vU, vU] [] S (up (up M a0 33 0) a0 34 255) := (Run_EE K tb_Mo_laysLog [15, 32, 46, 55] 500 0 _ _ S M).trans rfl
set_option maxRecDepth 100000 in
theorem b_Mo_laysLog_15 (K : Cal) (a0 : Nat) (x1 : Int) (x2 : Int) (x3 : Int) (x4 : Int) (d5 : AV) (d6 : AV) (d7 : AV) (S : Sp) (M : Mm) : Run K tb_Mo_laysLog 15 [vR 12 0 a0, vI x1, vI x2, vI x3, vI x4, d5, d6, d7] [] S M =
  bR (refOf S a0 0) fun b1 =>
  if x4 < M b1 1 then
      Run K tb_Mo_laysLog 32 [vR 12 0 a0, vI x1, vI x2, vI x3, vI x4, vI (w32 (x4 + 1)), d6, d7] [] S M
    else
      some (none, S, M) := (Run_EE K tb_Mo_laysLog [15, 32, 46, 55] 500 15 _ _ S M).trans rfl
set_option maxRecDepth 100000 in
theorem b_Mo_laysLog_32 (K : Cal) (a0 : Nat) (x1 : Int) (x2 : Int) (x3 : Int) (x4 : Int) (x5 : Int) (d6 : AV) (d7 : AV) (S : Sp) (M : Mm) : Run K tb_Mo_laysLog 32 [vR 12 0 a0, vI x1, vI x2, vI x3, vI x4, vI x5, d6, d7] [] S M =
  bR (refOf S a0 0) fun b1 =>
  if x5 < M b1 1 then
      Run K tb_Mo_laysLog 46 [vR 12 0 a0, vI x1, vI x2, vI x3, vI x4, vI x5, vI 1, d7] [] S M
    else
      Run K tb_Mo_laysLog 15 [vR 12 0 a0, vI x1, vI x2, vI x3, vI (w32 (x4 + 1)), vI x5, d6, d7] [] S M := (Run_EE K tb_Mo_laysLog [15, 32, 46, 55] 500 32 _ _ S M).trans rfl
set_option maxRecDepth 100000 in
theorem b_Mo_laysLog_46 (K : Cal) (a0 : Nat) (x1 : Int) (x2 : Int) (x3 : Int) (x4 : Int) (x5 : Int) (x6 : Int) (d7 : AV) (S : Sp) (M : Mm) : Run K tb_Mo_laysLog 46 [vR 12 0 a0, vI x1, vI x2, vI x3, vI x4, vI x5, vI x6, d7] [] S M =
  if x6 < x3 then
    Run K tb_Mo_laysLog 55 [vR 12 0 a0, vI x1, vI x2, vI x3, vI x4, vI x5, vI x6, vI 1] [] S M
  else
    Run K tb_Mo_laysLog 32 [vR 12 0 a0, vI x1, vI x2, vI x3, vI x4, vI (w32 (x5 + 1)), vI x6, d7] [] S M := (Run_EE K tb_Mo_laysLog [15, 32, 46, 55] 500 46 _ _ S M).trans rfl
set_option maxRecDepth 100000 in
theorem b_Mo_laysLog_55 (K : Cal) (a0 : Nat) (x1 : Int) (x2 : Int) (x3 : Int) (x4 : Int) (x5 : Int) (x6 : Int) (x7 : Int) (S : Sp) (M : Mm) : Run K tb_Mo_laysLog 55 [vR 12 0 a0, vI x1, vI x2, vI x3, vI x4, vI x5, vI x6, vI x7] [] S M =
  if x3 < w32 (x6 + x7) then
    Run K tb_Mo_laysLog 46 [vR 12 0 a0, vI x1, vI x2, vI x3, vI x4, vI x5, vI (w32 (x6 + 1)), vI x7] [] S M
  else
    bndI (K m_Mo_isLogged [vR 12 0 a0, vI x1, vI x2, vI x4, vI x6, vI x5, vI x7] S M) fun r1 S1 M1 =>
    if r1 = 0 then
      Run K tb_Mo_laysLog 55 [vR 12 0 a0, vI x1, vI x2, vI x3, vI x4, vI x5, vI x6, vI (w32 (x7 + 1))] [] S1 M1
    else
      Run K tb_Mo_laysLog 55 [vR 12 0 a0, vI x1, vI x2, vI x3, vI x4, vI x5, vI x6, vI (w32 (x7 + 1))] [] S1 (up (up M1 a0 33 (w32 ((M1 a0 33) + 1))) a0 34 (and32 ((up M1 a0 33 (w32 ((M1 a0 33) + 1))) a0 34) (or32 (shl32 1 x4) (shl32 1 x5)))) := (Run_EE K tb_Mo_laysLog [15, 32, 46, 55] 500 55 _ _ S M).trans rfl
set_option maxRecDepth 100000 in
theorem b_Mo_isLogged_0 (K : Cal) (a0 : Nat) (x1 : Int) (x2 : Int) (x3 : Int) (x4 : Int) (x5 : Int) (x6 : Int) (S : Sp) (M : Mm) : Run K tb_Mo_isLogged 0 [vR 12 0 a0, vI x1, vI x2, vI x3, vI x4, vI x5, vI x6, vU, vU] [] S M =
  Run K tb_Mo_isLogged 3 [vR 12 0 a0, vI x1, vI x2, vI x3, vI x4, vI x5, vI x6, vI 0, vU] [] S M := (Run_EE K tb_Mo_isLogged [3, 12] 500 0 _ _ S M).trans rfl
set_option maxRecDepth 100000 in
theorem b_Mo_isLogged_3 (K : Cal) (a0 : Nat) (x1 : Int) (x2 : Int) (x3 : Int) (x4 : Int) (x5 : Int) (x6 : Int) (x7 : Int) (d8 : AV) (S : Sp) (M : Mm) : Run K tb_Mo_isLogged 3 [vR 12 0 a0, vI x1, vI x2, vI x3, vI x4, vI x5, vI x6, vI x7, d8] [] S M =
  if x7 < x2 then
    Run K tb_Mo_isLogged 12 [vR 12 0 a0, vI x1, vI x2, vI x3, vI x4, vI x5, vI x6, vI x7, vI 0] [] S M
  else
    some (some (vI 1), S, M) := (Run_EE K tb_Mo_isLogged [3, 12] 500 3 _ _ S M).trans rfl
set_option maxRecDepth 100000 in
theorem b_Mo_isLogged_12 (K : Cal) (a0 : Nat) (x1 : Int) (x2 : Int) (x3 : Int) (x4 : Int) (x5 : Int) (x6 : Int) (x7 : Int) (x8 : Int) (S : Sp) (M : Mm) : Run K tb_Mo_isLogged 12 [vR 12 0 a0, vI x1, vI x2, vI x3, vI x4, vI x5, vI x6, vI x7, vI x8] [] S M =
  if x8 < 8 then
    bR (refOf S a0 24) fun b1 =>
    if x8 = x3 then
        if 0 ≤ x8 ∧ x8 < 8 then
          Run K tb_Mo_isLogged 12 [vR 12 0 a0, vI x1, vI x2, vI x3, vI x4, vI x5, vI x6, vI x7, vI (w32 (x8 + 1))] [] S (up M b1 x8.toNat x4)
        else none
      else
        if x8 = x5 then
          if 0 ≤ x8 ∧ x8 < 8 then
            Run K tb_Mo_isLogged 12 [vR 12 0 a0, vI x1, vI x2, vI x3, vI x4, vI x5, vI x6, vI x7, vI (w32 (x8 + 1))] [] S (up M b1 x8.toNat x6)
          else none
        else
          if 0 ≤ x8 ∧ x8 < 8 then
            Run K tb_Mo_isLogged 12 [vR 12 0 a0, vI x1, vI x2, vI x3, vI x4, vI x5, vI x6, vI x7, vI (w32 (x8 + 1))] [] S (up M b1 x8.toNat 0)
          else none
  else
    bndV (K m_Mo_leaks [vR 12 0 a0, vI x7] S M) fun S2 M2 =>
    bndI (K m_Mo_flag [vR 12 0 a0] S2 M2) fun r3 S3 M3 =>
    bR (refOf S3 a0 7) fun b4 =>
    if 0 ≤ w32 ((w32 (60 * x1)) + x7) ∧ w32 ((w32 (60 * x1)) + x7) < 240 then
        if cmp3 r3 (M3 b4 (w32 ((w32 (60 * x1)) + x7)).toNat) = 0 then
          Run K tb_Mo_isLogged 3 [vR 12 0 a0, vI x1, vI x2, vI x3, vI x4, vI x5, vI x6, vI (w32 (x7 + 1)), vI x8] [] S3 M3
        else
          some (some (vI 0), S3, M3)
      else none := (Run_EE K tb_Mo_isLogged [3, 12] 500 12 _ _ S M).trans rfl
set_option maxRecDepth 100000 in
theorem b_Mo_sure_0 (K : Cal) (a0 : Nat) (x1 : Int) (x2 : Int) (x3 : Int) (S : Sp) (M : Mm) : Run K tb_Mo_sure 0 [vR 12 0 a0, vI x1, vI x2, vI x3, vU] [] S M =
  bndI (K m_Mo_wrongLog [vR 12 0 a0, vI x1, vI x2, vI x3] S M) fun r1 S1 M1 =>
  if 0 < r1 then
    bndI (K m_Mo_refuse [vR 12 0 a0, vI r1] S1 M1) fun r2 S2 M2 =>
    some (some (vI r2), S2, M2)
  else
    bndV (K m_Mo_laysLog [vR 12 0 a0, vI x1, vI x2, vI x3] S1 M1) fun S3 M3 =>
    if M3 a0 33 = 0 then
      bndI (K m_Mo_refuse [vR 12 0 a0, vI 6] S3 M3) fun r4 S4 M4 =>
      some (some (vI r4), S4, M4)
    else
      bndI (K m_Mo_gives [vR 12 0 a0, vI (M3 a0 34)] S3 M3) fun r5 S5 M5 =>
      some (some (vI r5), S5, M5) := (Run_EE K tb_Mo_sure [] 500 0 _ _ S M).trans rfl
set_option maxRecDepth 100000 in
theorem b_Mo_copyLog_0 (K : Cal) (a0 : Nat) (x1 : Int) (x2 : Int) (x3 : Int) (S : Sp) (M : Mm) : Run K tb_Mo_copyLog 0 [vR 12 0 a0, vI x1, vI x2, vI x3, vU] [] S M =
  bndI (K m_Mo_isShip [vR 12 0 a0, vI x1] S M) fun r1 S1 M1 =>
  if r1 = 0 then
    bndI (K m_Mo_refuse [vR 12 0 a0, vI 1] S1 M1) fun r2 S2 M2 =>
    some (some (vI r2), S2, M2)
  else
    bndI (K m_Mo_isTray [vI x2] S1 M1) fun r3 S3 M3 =>
    if r3 = 0 then
      bndI (K m_Mo_refuse [vR 12 0 a0, vI 1] S3 M3) fun r4 S4 M4 =>
      some (some (vI r4), S4, M4)
    else
      bndI (K m_Mo_isFrom [vL x3, vL 1, vL 20] S3 M3) fun r5 S5 M5 =>
      if r5 = 0 then
        bndI (K m_Mo_refuse [vR 12 0 a0, vI 1] S5 M5) fun r6 S6 M6 =>
        some (some (vI r6), S6, M6)
      else
        bR (refOf S5 a0 6) fun b7 =>
        if 0 ≤ x2 ∧ x2 < 4 then
            if M5 b7 x2.toNat = (-1) then
              bndI (K m_Mo_refuse [vR 12 0 a0, vI 2] S5 M5) fun r8 S8 M8 =>
              some (some (vI r8), S8, M8)
            else
              bR (refOf S5 a0 6) fun b9 =>
              if 0 ≤ x2 ∧ x2 < 4 then
                  if M5 b9 x2.toNat < x3 then
                    bndI (K m_Mo_refuse [vR 12 0 a0, vI 3] S5 M5) fun r10 S10 M10 =>
                    some (some (vI r10), S10, M10)
                  else
                    Run K tb_Mo_copyLog 68 [vR 12 0 a0, vI x1, vI x2, vI x3, vI 0] [] S5 M5
                else none
          else none := (Run_EE K tb_Mo_copyLog [68] 500 0 _ _ S M).trans rfl
set_option maxRecDepth 100000 in
theorem b_Mo_copyLog_68 (K : Cal) (a0 : Nat) (x1 : Int) (x2 : Int) (x3 : Int) (x4 : Int) (S : Sp) (M : Mm) : Run K tb_Mo_copyLog 68 [vR 12 0 a0, vI x1, vI x2, vI x3, vI x4] [] S M =
  if x4 < x3 then
    bR (refOf S a0 7) fun b1 =>
    bndI (K m_Mo_flagBy [vR 12 0 a0, vI x1, vI x4] S M) fun r2 S2 M2 =>
      bR (refOf S2 a0 5) fun b3 =>
      if 0 ≤ x2 ∧ x2 < 4 then
          bndL (K m_Mo_cut [vL r2, vI (M2 b3 x2.toNat)] S2 M2) fun r4 S4 M4 =>
          if 0 ≤ w32 ((w32 (60 * x2)) + x4) ∧ w32 ((w32 (60 * x2)) + x4) < 240 then
            Run K tb_Mo_copyLog 68 [vR 12 0 a0, vI x1, vI x2, vI x3, vI (w32 (x4 + 1))] [] S4 (up M4 b1 (w32 ((w32 (60 * x2)) + x4)).toNat r4)
          else none
        else none
  else
    bndI (K m_Mo_gives [vR 12 0 a0, vI x3] S M) fun r5 S5 M5 =>
    some (some (vI r5), S5, M5) := (Run_EE K tb_Mo_copyLog [68] 500 68 _ _ S M).trans rfl
set_option maxRecDepth 100000 in
theorem b_Mo_live_0 (K : Cal) (a0 : Nat) (x1 : Int) (S : Sp) (M : Mm) : Run K tb_Mo_live 0 [vR 12 0 a0, vI x1, vU] [] S M =
  bndI (K m_Mo_isFrom [vL x1, vL 0, vL 9999] S M) fun r1 S1 M1 =>
  if r1 = 0 then
    bndI (K m_Mo_refuse [vR 12 0 a0, vI 1] S1 M1) fun r2 S2 M2 =>
    some (some (vI r2), S2, M2)
  else
    bR (refOf S1 a0 0) fun b3 =>
    if M1 b3 6 = (-1) then
        bndI (K m_Mo_refuse [vR 12 0 a0, vI 6] S1 M1) fun r4 S4 M4 =>
        some (some (vI r4), S4, M4)
      else
        bndV (K m_Mo_lives [vR 12 0 a0, vI x1] S1 M1) fun S5 M5 =>
        Run K tb_Mo_live 43 [vR 12 0 a0, vI x1, vI 0] [] S5 M5 := (Run_EE K tb_Mo_live [43] 500 0 _ _ S M).trans rfl
set_option maxRecDepth 100000 in
theorem b_Mo_live_43 (K : Cal) (a0 : Nat) (x1 : Int) (x2 : Int) (S : Sp) (M : Mm) : Run K tb_Mo_live 43 [vR 12 0 a0, vI x1, vI x2] [] S M =
  if x2 < 5 then
    bR (refOf S a0 39) fun b1 =>
    bR (refOf S a0 38) fun b2 =>
      if 0 ≤ x2 ∧ x2 < 5 then
          if 0 ≤ x2 ∧ x2 < 5 then
            Run K tb_Mo_live 43 [vR 12 0 a0, vI x1, vI (w32 (x2 + 1))] [] S (up M b1 x2.toNat (M b2 x2.toNat))
          else none
        else none
  else
    bndI (K m_Mo_gives [vR 12 0 a0, vI ((up M a0 40 1) a0 36)] S (up M a0 40 1)) fun r3 S3 M3 =>
    some (some (vI r3), S3, M3) := (Run_EE K tb_Mo_live [43] 500 43 _ _ S M).trans rfl
set_option maxRecDepth 100000 in
theorem b_Mo_lives_0 (K : Cal) (a0 : Nat) (x1 : Int) (S : Sp) (M : Mm) : Run K tb_Mo_lives 0 [vR 12 0 a0, vI x1, vU, vU] [] S M =
  Run K tb_Mo_lives 12 [vR 12 0 a0, vI x1, vI 0, vU] [] S (up (up M a0 35 x1) a0 36 0) := (Run_EE K tb_Mo_lives [12, 32] 500 0 _ _ S M).trans rfl
set_option maxRecDepth 100000 in
theorem b_Mo_lives_12 (K : Cal) (a0 : Nat) (x1 : Int) (x2 : Int) (d3 : AV) (S : Sp) (M : Mm) : Run K tb_Mo_lives 12 [vR 12 0 a0, vI x1, vI x2, d3] [] S M =
  if x2 < 5 then
    bR (refOf S a0 38) fun b1 =>
    if 0 ≤ x2 ∧ x2 < 5 then
        Run K tb_Mo_lives 12 [vR 12 0 a0, vI x1, vI (w32 (x2 + 1)), d3] [] S (up M b1 x2.toNat 0)
      else none
  else
    Run K tb_Mo_lives 32 [vR 12 0 a0, vI x1, vI 0, d3] [] S M := (Run_EE K tb_Mo_lives [12, 32] 500 12 _ _ S M).trans rfl
set_option maxRecDepth 100000 in
theorem b_Mo_lives_32 (K : Cal) (a0 : Nat) (x1 : Int) (x2 : Int) (d3 : AV) (S : Sp) (M : Mm) : Run K tb_Mo_lives 32 [vR 12 0 a0, vI x1, vI x2, d3] [] S M =
  bR (refOf S a0 0) fun b1 =>
  if x2 < M b1 6 then
      if M a0 36 = 300 then
        bR (refOf S a0 38) fun b2 =>
        some (none, S, up M b2 4 1)
      else
        bR (refOf S a0 0) fun b3 =>
        if 0 ≤ w32 (206 + (w32 (6 * x2))) ∧ w32 (206 + (w32 (6 * x2))) < 4004 then
            if (up M a0 36 (w32 ((M a0 36) + 1))) b3 (w32 (206 + (w32 (6 * x2)))).toNat = 28 then
              some (none, S, up M a0 36 (w32 ((M a0 36) + 1)))
            else
              bR (refOf S a0 38) fun b4 =>
              bndI (K m_Mo_does [vR 12 0 a0, vI (w32 (206 + (w32 (6 * x2))))] S (up M a0 36 (w32 ((M a0 36) + 1)))) fun r5 S5 M5 =>
                if r5 = 0 then
                  bR (refOf S5 a0 0) fun b6 =>
                  if 0 ≤ w32 (206 + (w32 (6 * x2))) ∧ w32 (206 + (w32 (6 * x2))) < 4004 then
                      if (up M5 b4 0 (w32 (((up M a0 36 (w32 ((M a0 36) + 1))) b4 0) + 1))) b6 (w32 (206 + (w32 (6 * x2)))).toNat = 26 then
                        bR (refOf S5 a0 37) fun b7 =>
                        bR (refOf S5 a0 0) fun b8 =>
                          if 0 ≤ w32 ((w32 (206 + (w32 (6 * x2)))) + 1) ∧ w32 ((w32 (206 + (w32 (6 * x2)))) + 1) < 4004 then
                              if 0 ≤ x2 ∧ x2 < 80 then
                                bR (refOf S5 a0 0) fun b9 =>
                                if 0 ≤ w32 (206 + (w32 (6 * x2))) ∧ w32 (206 + (w32 (6 * x2))) < 4004 then
                                    if (up (up M5 b4 0 (w32 (((up M a0 36 (w32 ((M a0 36) + 1))) b4 0) + 1))) b7 x2.toNat (w32 (((up M5 b4 0 (w32 (((up M a0 36 (w32 ((M a0 36) + 1))) b4 0) + 1))) b8 (w32 ((w32 (206 + (w32 (6 * x2)))) + 1)).toNat) - 1))) b9 (w32 (206 + (w32 (6 * x2)))).toNat < 2500 then
                                      bndI (K m_Mo_behindEnds [vR 12 0 a0, vI (w32 (x2 + 1))] S5 (up (up M5 b4 0 (w32 (((up M a0 36 (w32 ((M a0 36) + 1))) b4 0) + 1))) b7 x2.toNat (w32 (((up M5 b4 0 (w32 (((up M a0 36 (w32 ((M a0 36) + 1))) b4 0) + 1))) b8 (w32 ((w32 (206 + (w32 (6 * x2)))) + 1)).toNat) - 1)))) fun r10 S10 M10 =>
                                      Run K tb_Mo_lives 32 [vR 12 0 a0, vI x1, vI r10, vI (w32 (206 + (w32 (6 * x2))))] [] S10 M10
                                    else
                                      bndI (K m_Mo_holds [vR 12 0 a0, vI (w32 (206 + (w32 (6 * x2))))] S5 (up (up M5 b4 0 (w32 (((up M a0 36 (w32 ((M a0 36) + 1))) b4 0) + 1))) b7 x2.toNat (w32 (((up M5 b4 0 (w32 (((up M a0 36 (w32 ((M a0 36) + 1))) b4 0) + 1))) b8 (w32 ((w32 (206 + (w32 (6 * x2)))) + 1)).toNat) - 1)))) fun r11 S11 M11 =>
                                      if r11 = 0 then
                                        bR (refOf S11 a0 0) fun b12 =>
                                        if 0 ≤ w32 ((w32 (206 + (w32 (6 * x2)))) + 4) ∧ w32 ((w32 (206 + (w32 (6 * x2)))) + 4) < 4004 then
                                            bndI (K m_Mo_behindEnds [vR 12 0 a0, vI (w32 ((M11 b12 (w32 ((w32 (206 + (w32 (6 * x2)))) + 4)).toNat) + 1))] S11 M11) fun r13 S13 M13 =>
                                            Run K tb_Mo_lives 32 [vR 12 0 a0, vI x1, vI r13, vI (w32 (206 + (w32 (6 * x2))))] [] S13 M13
                                          else none
                                      else
                                        bndI (K m_Mo_behindEnds [vR 12 0 a0, vI (w32 (x2 + 1))] S11 M11) fun r14 S14 M14 =>
                                        Run K tb_Mo_lives 32 [vR 12 0 a0, vI x1, vI r14, vI (w32 (206 + (w32 (6 * x2))))] [] S14 M14
                                  else none
                              else none
                            else none
                      else
                        bR (refOf S5 a0 0) fun b15 =>
                        if 0 ≤ w32 (206 + (w32 (6 * x2))) ∧ w32 (206 + (w32 (6 * x2))) < 4004 then
                            if (up M5 b4 0 (w32 (((up M a0 36 (w32 ((M a0 36) + 1))) b4 0) + 1))) b15 (w32 (206 + (w32 (6 * x2)))).toNat < 2500 then
                              bndI (K m_Mo_behindEnds [vR 12 0 a0, vI (w32 (x2 + 1))] S5 (up M5 b4 0 (w32 (((up M a0 36 (w32 ((M a0 36) + 1))) b4 0) + 1)))) fun r16 S16 M16 =>
                              Run K tb_Mo_lives 32 [vR 12 0 a0, vI x1, vI r16, vI (w32 (206 + (w32 (6 * x2))))] [] S16 M16
                            else
                              bndI (K m_Mo_holds [vR 12 0 a0, vI (w32 (206 + (w32 (6 * x2))))] S5 (up M5 b4 0 (w32 (((up M a0 36 (w32 ((M a0 36) + 1))) b4 0) + 1)))) fun r17 S17 M17 =>
                              if r17 = 0 then
                                bR (refOf S17 a0 0) fun b18 =>
                                if 0 ≤ w32 ((w32 (206 + (w32 (6 * x2)))) + 4) ∧ w32 ((w32 (206 + (w32 (6 * x2)))) + 4) < 4004 then
                                    bndI (K m_Mo_behindEnds [vR 12 0 a0, vI (w32 ((M17 b18 (w32 ((w32 (206 + (w32 (6 * x2)))) + 4)).toNat) + 1))] S17 M17) fun r19 S19 M19 =>
                                    Run K tb_Mo_lives 32 [vR 12 0 a0, vI x1, vI r19, vI (w32 (206 + (w32 (6 * x2))))] [] S19 M19
                                  else none
                              else
                                bndI (K m_Mo_behindEnds [vR 12 0 a0, vI (w32 (x2 + 1))] S17 M17) fun r20 S20 M20 =>
                                Run K tb_Mo_lives 32 [vR 12 0 a0, vI x1, vI r20, vI (w32 (206 + (w32 (6 * x2))))] [] S20 M20
                          else none
                    else none
                else
                  bR (refOf S5 a0 0) fun b21 =>
                  if 0 ≤ w32 (206 + (w32 (6 * x2))) ∧ w32 (206 + (w32 (6 * x2))) < 4004 then
                      if (up M5 b4 0 (w32 (((up M a0 36 (w32 ((M a0 36) + 1))) b4 0) + 0))) b21 (w32 (206 + (w32 (6 * x2)))).toNat = 26 then
                        bR (refOf S5 a0 37) fun b22 =>
                        bR (refOf S5 a0 0) fun b23 =>
                          if 0 ≤ w32 ((w32 (206 + (w32 (6 * x2)))) + 1) ∧ w32 ((w32 (206 + (w32 (6 * x2)))) + 1) < 4004 then
                              if 0 ≤ x2 ∧ x2 < 80 then
                                bR (refOf S5 a0 0) fun b24 =>
                                if 0 ≤ w32 (206 + (w32 (6 * x2))) ∧ w32 (206 + (w32 (6 * x2))) < 4004 then
                                    if (up (up M5 b4 0 (w32 (((up M a0 36 (w32 ((M a0 36) + 1))) b4 0) + 0))) b22 x2.toNat (w32 (((up M5 b4 0 (w32 (((up M a0 36 (w32 ((M a0 36) + 1))) b4 0) + 0))) b23 (w32 ((w32 (206 + (w32 (6 * x2)))) + 1)).toNat) - 1))) b24 (w32 (206 + (w32 (6 * x2)))).toNat < 2500 then
                                      bndI (K m_Mo_behindEnds [vR 12 0 a0, vI (w32 (x2 + 1))] S5 (up (up M5 b4 0 (w32 (((up M a0 36 (w32 ((M a0 36) + 1))) b4 0) + 0))) b22 x2.toNat (w32 (((up M5 b4 0 (w32 (((up M a0 36 (w32 ((M a0 36) + 1))) b4 0) + 0))) b23 (w32 ((w32 (206 + (w32 (6 * x2)))) + 1)).toNat) - 1)))) fun r25 S25 M25 =>
                                      Run K tb_Mo_lives 32 [vR 12 0 a0, vI x1, vI r25, vI (w32 (206 + (w32 (6 * x2))))] [] S25 M25
                                    else
                                      bndI (K m_Mo_holds [vR 12 0 a0, vI (w32 (206 + (w32 (6 * x2))))] S5 (up (up M5 b4 0 (w32 (((up M a0 36 (w32 ((M a0 36) + 1))) b4 0) + 0))) b22 x2.toNat (w32 (((up M5 b4 0 (w32 (((up M a0 36 (w32 ((M a0 36) + 1))) b4 0) + 0))) b23 (w32 ((w32 (206 + (w32 (6 * x2)))) + 1)).toNat) - 1)))) fun r26 S26 M26 =>
                                      if r26 = 0 then
                                        bR (refOf S26 a0 0) fun b27 =>
                                        if 0 ≤ w32 ((w32 (206 + (w32 (6 * x2)))) + 4) ∧ w32 ((w32 (206 + (w32 (6 * x2)))) + 4) < 4004 then
                                            bndI (K m_Mo_behindEnds [vR 12 0 a0, vI (w32 ((M26 b27 (w32 ((w32 (206 + (w32 (6 * x2)))) + 4)).toNat) + 1))] S26 M26) fun r28 S28 M28 =>
                                            Run K tb_Mo_lives 32 [vR 12 0 a0, vI x1, vI r28, vI (w32 (206 + (w32 (6 * x2))))] [] S28 M28
                                          else none
                                      else
                                        bndI (K m_Mo_behindEnds [vR 12 0 a0, vI (w32 (x2 + 1))] S26 M26) fun r29 S29 M29 =>
                                        Run K tb_Mo_lives 32 [vR 12 0 a0, vI x1, vI r29, vI (w32 (206 + (w32 (6 * x2))))] [] S29 M29
                                  else none
                              else none
                            else none
                      else
                        bR (refOf S5 a0 0) fun b30 =>
                        if 0 ≤ w32 (206 + (w32 (6 * x2))) ∧ w32 (206 + (w32 (6 * x2))) < 4004 then
                            if (up M5 b4 0 (w32 (((up M a0 36 (w32 ((M a0 36) + 1))) b4 0) + 0))) b30 (w32 (206 + (w32 (6 * x2)))).toNat < 2500 then
                              bndI (K m_Mo_behindEnds [vR 12 0 a0, vI (w32 (x2 + 1))] S5 (up M5 b4 0 (w32 (((up M a0 36 (w32 ((M a0 36) + 1))) b4 0) + 0)))) fun r31 S31 M31 =>
                              Run K tb_Mo_lives 32 [vR 12 0 a0, vI x1, vI r31, vI (w32 (206 + (w32 (6 * x2))))] [] S31 M31
                            else
                              bndI (K m_Mo_holds [vR 12 0 a0, vI (w32 (206 + (w32 (6 * x2))))] S5 (up M5 b4 0 (w32 (((up M a0 36 (w32 ((M a0 36) + 1))) b4 0) + 0)))) fun r32 S32 M32 =>
                              if r32 = 0 then
                                bR (refOf S32 a0 0) fun b33 =>
                                if 0 ≤ w32 ((w32 (206 + (w32 (6 * x2)))) + 4) ∧ w32 ((w32 (206 + (w32 (6 * x2)))) + 4) < 4004 then
                                    bndI (K m_Mo_behindEnds [vR 12 0 a0, vI (w32 ((M32 b33 (w32 ((w32 (206 + (w32 (6 * x2)))) + 4)).toNat) + 1))] S32 M32) fun r34 S34 M34 =>
                                    Run K tb_Mo_lives 32 [vR 12 0 a0, vI x1, vI r34, vI (w32 (206 + (w32 (6 * x2))))] [] S34 M34
                                  else none
                              else
                                bndI (K m_Mo_behindEnds [vR 12 0 a0, vI (w32 (x2 + 1))] S32 M32) fun r35 S35 M35 =>
                                Run K tb_Mo_lives 32 [vR 12 0 a0, vI x1, vI r35, vI (w32 (206 + (w32 (6 * x2))))] [] S35 M35
                          else none
                    else none
          else none
    else
      some (none, S, M) := (Run_EE K tb_Mo_lives [12, 32] 500 32 _ _ S M).trans rfl
set_option maxRecDepth 100000 in
theorem b_Mo_does_0 (K : Cal) (a0 : Nat) (x1 : Int) (S : Sp) (M : Mm) : Run K tb_Mo_does 0 [vR 12 0 a0, vI x1, vU, vU] [] S M =
  bR (refOf S a0 0) fun b1 =>
  if 0 ≤ w32 (x1 + 1) ∧ w32 (x1 + 1) < 4004 then
      bR (refOf S a0 0) fun b2 =>
      if 0 ≤ w32 (x1 + 2) ∧ w32 (x1 + 2) < 4004 then
          bR (refOf S a0 0) fun b3 =>
          if 0 ≤ x1 ∧ x1 < 4004 then
              if M b3 x1.toNat = 19 then
                bndI (K m_Mo_daysGo [vR 12 0 a0, vI (M b1 (w32 (x1 + 1)).toNat)] S M) fun r4 S4 M4 =>
                some (some (vI (r4 % 2)), S4, M4)
              else if M b3 x1.toNat = 20 then
                bR (refOf S a0 0) fun b5 =>
                if 0 ≤ w32 (x1 + 3) ∧ w32 (x1 + 3) < 4004 then
                    bndI (K m_Mo_buysBy [vR 12 0 a0, vI (M b1 (w32 (x1 + 1)).toNat), vI (M b2 (w32 (x1 + 2)).toNat), vI (M b5 (w32 (x1 + 3)).toNat)] S M) fun r6 S6 M6 =>
                    some (some (vI (r6 % 2)), S6, M6)
                  else none
              else if M b3 x1.toNat = 21 then
                bR (refOf S a0 0) fun b7 =>
                if 0 ≤ w32 (x1 + 3) ∧ w32 (x1 + 3) < 4004 then
                    bndI (K m_Mo_sells [vR 12 0 a0, vI (M b1 (w32 (x1 + 1)).toNat), vI (M b2 (w32 (x1 + 2)).toNat), vI (M b7 (w32 (x1 + 3)).toNat)] S M) fun r8 S8 M8 =>
                    some (some (vI (r8 % 2)), S8, M8)
                  else none
              else if M b3 x1.toNat = 22 then
                bR (refOf S a0 0) fun b9 =>
                if 0 ≤ w32 (x1 + 3) ∧ w32 (x1 + 3) < 4004 then
                    bndI (K m_Mo_dumps [vR 12 0 a0, vI (M b1 (w32 (x1 + 1)).toNat), vI (M b2 (w32 (x1 + 2)).toNat), vI (M b9 (w32 (x1 + 3)).toNat)] S M) fun r10 S10 M10 =>
                    some (some (vI (r10 % 2)), S10, M10)
                  else none
              else if M b3 x1.toNat = 23 then
                bndI (K m_Mo_sails [vR 12 0 a0, vI (M b1 (w32 (x1 + 1)).toNat), vI (M b2 (w32 (x1 + 2)).toNat)] S M) fun r11 S11 M11 =>
                some (some (vI (r11 % 2)), S11, M11)
              else if M b3 x1.toNat = 24 then
                bR (refOf S a0 0) fun b12 =>
                bndI (K m_Mo_draw [vR 12 0 a0, vI (M b12 2)] S M) fun r13 S13 M13 =>
                  bndI (K m_Mo_sails [vR 12 0 a0, vI (M b1 (w32 (x1 + 1)).toNat), vI r13] S13 M13) fun r14 S14 M14 =>
                  some (some (vI (r14 % 2)), S14, M14)
              else some (some (vI 1), S, M)
            else none
        else none
    else none := (Run_EE K tb_Mo_does [] 500 0 _ _ S M).trans rfl
set_option maxRecDepth 100000 in
theorem b_Mo_daysGo_0 (K : Cal) (a0 : Nat) (x1 : Int) (S : Sp) (M : Mm) : Run K tb_Mo_daysGo 0 [vR 12 0 a0, vI x1, vU] [] S M =
  bR (refOf S a0 0) fun b1 =>
  if 9999 < w32 ((M b1 5) + x1) then
      some (some (vI 0), S, M)
    else
      Run K tb_Mo_daysGo 18 [vR 12 0 a0, vI x1, vI 0] [] S M := (Run_EE K tb_Mo_daysGo [18] 500 0 _ _ S M).trans rfl
set_option maxRecDepth 100000 in
theorem b_Mo_daysGo_18 (K : Cal) (a0 : Nat) (x1 : Int) (x2 : Int) (S : Sp) (M : Mm) : Run K tb_Mo_daysGo 18 [vR 12 0 a0, vI x1, vI x2] [] S M =
  if x2 < x1 then
    bR (refOf S a0 38) fun b1 =>
    bndI (K m_Mo_dayGoes [vR 12 0 a0] S M) fun r2 S2 M2 =>
      bndI (K m_Mo_bits [vI r2] S2 M2) fun r3 S3 M3 =>
      Run K tb_Mo_daysGo 18 [vR 12 0 a0, vI x1, vI (w32 (x2 + 1))] [] S3 (up M3 b1 3 (w32 ((M b1 3) + r3)))
  else
    bR (refOf S a0 38) fun b4 =>
    some (some (vI 1), S, up M b4 1 (w32 ((M b4 1) + x1))) := (Run_EE K tb_Mo_daysGo [18] 500 18 _ _ S M).trans rfl
set_option maxRecDepth 100000 in
theorem b_Mo_buysBy_0 (K : Cal) (a0 : Nat) (x1 : Int) (x2 : Int) (x3 : Int) (S : Sp) (M : Mm) : Run K tb_Mo_buysBy 0 [vR 12 0 a0, vI x1, vI x2, vI x3] [] S M =
  bndI (K m_Mo_buys [vR 12 0 a0, vI x1, vI x2, vI x3] S M) fun r1 S1 M1 =>
  if r1 = 0 then
    some (some (vI 0), S1, M1)
  else
    bR (refOf S1 a0 38) fun b2 =>
    some (some (vI 1), S1, up M1 b2 2 (w32 ((M1 b2 2) + x3))) := (Run_EE K tb_Mo_buysBy [] 500 0 _ _ S M).trans rfl
set_option maxRecDepth 100000 in
theorem b_Mo_draw_0 (K : Cal) (a0 : Nat) (x1 : Int) (S : Sp) (M : Mm) : Run K tb_Mo_draw 0 [vR 12 0 a0, vI x1] [] S M =
  if x1 = 0 then none else
    some (some (vI (Int.tmod (w32 (Int.tdiv ((up M a0 35 (Int.tmod (w32 ((w32 ((M a0 35) * 3023)) + 11251)) 65536)) a0 35) 8)) x1)), S, up M a0 35 (Int.tmod (w32 ((w32 ((M a0 35) * 3023)) + 11251)) 65536)) := (Run_EE K tb_Mo_draw [] 500 0 _ _ S M).trans rfl
set_option maxRecDepth 100000 in
theorem b_Mo_holds_0 (K : Cal) (a0 : Nat) (x1 : Int) (S : Sp) (M : Mm) : Run K tb_Mo_holds 0 [vR 12 0 a0, vI x1, vU, vU, vU] [] S M =
  bR (refOf S a0 0) fun b1 =>
  if 0 ≤ x1 ∧ x1 < 4004 then
      bR (refOf S a0 0) fun b2 =>
      if 0 ≤ w32 (x1 + 1) ∧ w32 (x1 + 1) < 4004 then
          if w32 ((M b1 x1.toNat) - 2500) = 29 then
            bndI (K m_Mo_flagOf [vR 12 0 a0, vI (M b2 (w32 (x1 + 1)).toNat)] S M) fun r3 S3 M3 =>
            bR (refOf S3 a0 0) fun b4 =>
            if 0 ≤ w32 (x1 + 2) ∧ w32 (x1 + 2) < 4004 then
                if r3 = M3 b4 (w32 (x1 + 2)).toNat then
                  some (some (vI 1), S3, M3)
                else
                  some (some (vI 0), S3, M3)
              else none
          else
            if w32 ((M b1 x1.toNat) - 2500) = 30 then
              bndI (K m_Mo_shipOf [vR 12 0 a0, vI (M b2 (w32 (x1 + 1)).toNat), vI 0] S M) fun r5 S5 M5 =>
              bR (refOf S5 a0 0) fun b6 =>
              if 0 ≤ w32 (x1 + 2) ∧ w32 (x1 + 2) < 4004 then
                  if r5 = M5 b6 (w32 (x1 + 2)).toNat then
                    some (some (vI 1), S5, M5)
                  else
                    some (some (vI 0), S5, M5)
                else none
            else
              bndI (K m_Mo_shipOf [vR 12 0 a0, vI (M b2 (w32 (x1 + 1)).toNat), vI 4] S M) fun r7 S7 M7 =>
              bR (refOf S7 a0 0) fun b8 =>
              if 0 ≤ w32 (x1 + 5) ∧ w32 (x1 + 5) < 4004 then
                  if M7 b8 (w32 (x1 + 5)).toNat = 60 then
                    bR (refOf S7 a0 0) fun b9 =>
                    if 0 ≤ w32 (x1 + 2) ∧ w32 (x1 + 2) < 4004 then
                        if r7 < M7 b9 (w32 (x1 + 2)).toNat then
                          some (some (vI 1), S7, M7)
                        else
                          some (some (vI 0), S7, M7)
                      else none
                  else
                    bR (refOf S7 a0 0) fun b10 =>
                    if 0 ≤ w32 (x1 + 5) ∧ w32 (x1 + 5) < 4004 then
                        if M7 b10 (w32 (x1 + 5)).toNat = 62 then
                          bR (refOf S7 a0 0) fun b11 =>
                          if 0 ≤ w32 (x1 + 2) ∧ w32 (x1 + 2) < 4004 then
                              if M7 b11 (w32 (x1 + 2)).toNat < r7 then
                                some (some (vI 1), S7, M7)
                              else
                                some (some (vI 0), S7, M7)
                            else none
                        else
                          bR (refOf S7 a0 0) fun b12 =>
                          if 0 ≤ w32 (x1 + 2) ∧ w32 (x1 + 2) < 4004 then
                              if r7 = M7 b12 (w32 (x1 + 2)).toNat then
                                some (some (vI 1), S7, M7)
                              else
                                some (some (vI 0), S7, M7)
                            else none
                      else none
                else none
        else none
    else none := (Run_EE K tb_Mo_holds [] 500 0 _ _ S M).trans rfl
set_option maxRecDepth 100000 in
theorem b_Mo_behindEnds_0 (K : Cal) (a0 : Nat) (x1 : Int) (S : Sp) (M : Mm) : Run K tb_Mo_behindEnds 0 [vR 12 0 a0, vI x1, vU, vU, vU] [] S M =
  Run K tb_Mo_behindEnds 2 [vR 12 0 a0, vI x1, vI x1, vU, vU] [] S M := (Run_EE K tb_Mo_behindEnds [2] 500 0 _ _ S M).trans rfl
set_option maxRecDepth 100000 in
theorem b_Mo_behindEnds_2 (K : Cal) (a0 : Nat) (x1 : Int) (x2 : Int) (d3 : AV) (d4 : AV) (S : Sp) (M : Mm) : Run K tb_Mo_behindEnds 2 [vR 12 0 a0, vI x1, vI x2, d3, d4] [] S M =
  bR (refOf S a0 0) fun b1 =>
  if x2 < M b1 6 then
      bR (refOf S a0 0) fun b2 =>
      if 0 ≤ w32 (206 + (w32 (6 * x2))) ∧ w32 (206 + (w32 (6 * x2))) < 4004 then
          if M b2 (w32 (206 + (w32 (6 * x2)))).toNat = 27 then
            bR (refOf S a0 0) fun b3 =>
            if 0 ≤ w32 ((w32 (206 + (w32 (6 * x2)))) + 4) ∧ w32 ((w32 (206 + (w32 (6 * x2)))) + 4) < 4004 then
                bR (refOf S a0 0) fun b4 =>
                if 0 ≤ w32 (206 + (w32 (6 * (M b3 (w32 ((w32 (206 + (w32 (6 * x2)))) + 4)).toNat)))) ∧ w32 (206 + (w32 (6 * (M b3 (w32 ((w32 (206 + (w32 (6 * x2)))) + 4)).toNat)))) < 4004 then
                    if M b4 (w32 (206 + (w32 (6 * (M b3 (w32 ((w32 (206 + (w32 (6 * x2)))) + 4)).toNat))))).toNat = 26 then
                      bR (refOf S a0 37) fun b5 =>
                      if 0 ≤ M b3 (w32 ((w32 (206 + (w32 (6 * x2)))) + 4)).toNat ∧ M b3 (w32 ((w32 (206 + (w32 (6 * x2)))) + 4)).toNat < 80 then
                          if 0 < M b5 (M b3 (w32 ((w32 (206 + (w32 (6 * x2)))) + 4)).toNat).toNat then
                            bR (refOf S a0 37) fun b6 =>
                            if 0 ≤ M b3 (w32 ((w32 (206 + (w32 (6 * x2)))) + 4)).toNat ∧ M b3 (w32 ((w32 (206 + (w32 (6 * x2)))) + 4)).toNat < 80 then
                                if 0 ≤ M b3 (w32 ((w32 (206 + (w32 (6 * x2)))) + 4)).toNat ∧ M b3 (w32 ((w32 (206 + (w32 (6 * x2)))) + 4)).toNat < 80 then
                                  Run K tb_Mo_behindEnds 2 [vR 12 0 a0, vI x1, vI (w32 ((M b3 (w32 ((w32 (206 + (w32 (6 * x2)))) + 4)).toNat) + 1)), vI (M b3 (w32 ((w32 (206 + (w32 (6 * x2)))) + 4)).toNat), vI 1] [] S (up M b6 (M b3 (w32 ((w32 (206 + (w32 (6 * x2)))) + 4)).toNat).toNat (w32 ((M b6 (M b3 (w32 ((w32 (206 + (w32 (6 * x2)))) + 4)).toNat).toNat) - 1)))
                                else none
                              else none
                          else
                            bR (refOf S a0 37) fun b7 =>
                            if 0 ≤ M b3 (w32 ((w32 (206 + (w32 (6 * x2)))) + 4)).toNat ∧ M b3 (w32 ((w32 (206 + (w32 (6 * x2)))) + 4)).toNat < 80 then
                                if 0 ≤ M b3 (w32 ((w32 (206 + (w32 (6 * x2)))) + 4)).toNat ∧ M b3 (w32 ((w32 (206 + (w32 (6 * x2)))) + 4)).toNat < 80 then
                                  Run K tb_Mo_behindEnds 2 [vR 12 0 a0, vI x1, vI (w32 (x2 + 1)), vI (M b3 (w32 ((w32 (206 + (w32 (6 * x2)))) + 4)).toNat), vI 0] [] S (up M b7 (M b3 (w32 ((w32 (206 + (w32 (6 * x2)))) + 4)).toNat).toNat (w32 ((M b7 (M b3 (w32 ((w32 (206 + (w32 (6 * x2)))) + 4)).toNat).toNat) - 0)))
                                else none
                              else none
                        else none
                    else
                      bR (refOf S a0 37) fun b8 =>
                      if 0 ≤ M b3 (w32 ((w32 (206 + (w32 (6 * x2)))) + 4)).toNat ∧ M b3 (w32 ((w32 (206 + (w32 (6 * x2)))) + 4)).toNat < 80 then
                          if 0 ≤ M b3 (w32 ((w32 (206 + (w32 (6 * x2)))) + 4)).toNat ∧ M b3 (w32 ((w32 (206 + (w32 (6 * x2)))) + 4)).toNat < 80 then
                            Run K tb_Mo_behindEnds 2 [vR 12 0 a0, vI x1, vI (w32 (x2 + 1)), vI (M b3 (w32 ((w32 (206 + (w32 (6 * x2)))) + 4)).toNat), vI 0] [] S (up M b8 (M b3 (w32 ((w32 (206 + (w32 (6 * x2)))) + 4)).toNat).toNat (w32 ((M b8 (M b3 (w32 ((w32 (206 + (w32 (6 * x2)))) + 4)).toNat).toNat) - 0)))
                          else none
                        else none
                  else none
              else none
          else
            some (some (vI x2), S, M)
        else none
    else
      some (some (vI x2), S, M) := (Run_EE K tb_Mo_behindEnds [2] 500 2 _ _ S M).trans rfl
set_option maxRecDepth 100000 in
theorem b_Mo_lived_0 (K : Cal) (a0 : Nat) (x1 : Int) (S : Sp) (M : Mm) : Run K tb_Mo_lived 0 [vR 12 0 a0, vI x1] [] S M =
  if x1 < 0 then
    bndI (K m_Mo_refuse [vR 12 0 a0, vI 1] S M) fun r1 S1 M1 =>
    some (some (vI r1), S1, M1)
  else
    if 4 < x1 then
      bndI (K m_Mo_refuse [vR 12 0 a0, vI 1] S M) fun r2 S2 M2 =>
      some (some (vI r2), S2, M2)
    else
      if M a0 40 = 0 then
        bndI (K m_Mo_refuse [vR 12 0 a0, vI 6] S M) fun r3 S3 M3 =>
        some (some (vI r3), S3, M3)
      else
        bR (refOf S a0 39) fun b4 =>
        if 0 ≤ x1 ∧ x1 < 5 then
            bndI (K m_Mo_gives [vR 12 0 a0, vI (M b4 x1.toNat)] S M) fun r5 S5 M5 =>
            some (some (vI r5), S5, M5)
          else none := (Run_EE K tb_Mo_lived [] 500 0 _ _ S M).trans rfl
set_option maxRecDepth 100000 in
theorem b_Mo_mean_0 (K : Cal) (a0 : Nat) (x1 : Int) (x2 : Int) (S : Sp) (M : Mm) : Run K tb_Mo_mean 0 [vR 12 0 a0, vI x1, vI x2, vU, vU, vU, vU] [] S M =
  bndI (K m_Mo_isFrom [vL x1, vL 0, vL 9999] S M) fun r1 S1 M1 =>
  if r1 = 0 then
    bndI (K m_Mo_is [vR 12 0 a0, vI 1] S1 M1) fun r2 S2 M2 =>
    some (some (vI (r2 % 2)), S2, M2)
  else
    bndI (K m_Mo_isFrom [vL x2, vL 1, vL 20] S1 M1) fun r3 S3 M3 =>
    if r3 = 0 then
      bndI (K m_Mo_is [vR 12 0 a0, vI 1] S3 M3) fun r4 S4 M4 =>
      some (some (vI (r4 % 2)), S4, M4)
    else
      if 9999 < w32 ((w32 (x1 + x2)) - 1) then
        bndI (K m_Mo_is [vR 12 0 a0, vI 1] S3 M3) fun r5 S5 M5 =>
        some (some (vI (r5 % 2)), S5, M5)
      else
        bR (refOf S3 a0 0) fun b6 =>
        if M3 b6 6 = (-1) then
            bndI (K m_Mo_is [vR 12 0 a0, vI 6] S3 M3) fun r7 S7 M7 =>
            some (some (vI (r7 % 2)), S7, M7)
          else
            Run K tb_Mo_mean 61 [vR 12 0 a0, vI x1, vI x2, vI 0, vU, vU, vU] [] S3 M3 := (Run_EE K tb_Mo_mean [61, 95, 122] 500 0 _ _ S M).trans rfl
set_option maxRecDepth 100000 in
theorem b_Mo_mean_61 (K : Cal) (a0 : Nat) (x1 : Int) (x2 : Int) (x3 : Int) (d4 : AV) (d5 : AV) (d6 : AV) (S : Sp) (M : Mm) : Run K tb_Mo_mean 61 [vR 12 0 a0, vI x1, vI x2, vI x3, d4, d5, d6] [] S M =
  if x3 < 206 then
    bR (refOf S a0 0) fun b1 =>
    bR (refOf S a0 0) fun b2 =>
      if 0 ≤ x3 ∧ x3 < 4004 then
          if 0 ≤ w32 (2860 + x3) ∧ w32 (2860 + x3) < 4004 then
            Run K tb_Mo_mean 61 [vR 12 0 a0, vI x1, vI x2, vI (w32 (x3 + 1)), d4, d5, d6] [] S (up M b1 (w32 (2860 + x3)).toNat (M b2 x3.toNat))
          else none
        else none
  else
    Run K tb_Mo_mean 95 [vR 12 0 a0, vI x1, vI x2, vL 0, vU, vI 0, d6] [] S M := (Run_EE K tb_Mo_mean [61, 95, 122] 500 61 _ _ S M).trans rfl
set_option maxRecDepth 100000 in
theorem b_Mo_mean_95 (K : Cal) (a0 : Nat) (x1 : Int) (x2 : Int) (x3 : Int) (d4 : AV) (x5 : Int) (d6 : AV) (S : Sp) (M : Mm) : Run K tb_Mo_mean 95 [vR 12 0 a0, vI x1, vI x2, vL x3, d4, vI x5, d6] [] S M =
  if x5 < x2 then
    bndV (K m_Mo_lives [vR 12 0 a0, vI (w32 (x1 + x5))] S M) fun S1 M1 =>
    bndI (K m_Mo_ofShips [vR 12 0 a0, vI 9] S1 M1) fun r2 S2 M2 =>
    Run K tb_Mo_mean 122 [vR 12 0 a0, vI x1, vI x2, vL (w64 (x3 + r2)), vU, vI x5, vI 0] [] S2 M2
  else
    bndI (K m_Mo_tellsBy [vR 12 0 a0, vL x3, vL x2] S M) fun r3 S3 M3 =>
    some (some (vI (r3 % 2)), S3, M3) := (Run_EE K tb_Mo_mean [61, 95, 122] 500 95 _ _ S M).trans rfl
set_option maxRecDepth 100000 in
theorem b_Mo_mean_122 (K : Cal) (a0 : Nat) (x1 : Int) (x2 : Int) (x3 : Int) (d4 : AV) (x5 : Int) (x6 : Int) (S : Sp) (M : Mm) : Run K tb_Mo_mean 122 [vR 12 0 a0, vI x1, vI x2, vL x3, d4, vI x5, vI x6] [] S M =
  if x6 < 206 then
    bR (refOf S a0 0) fun b1 =>
    bR (refOf S a0 0) fun b2 =>
      if 0 ≤ w32 (2860 + x6) ∧ w32 (2860 + x6) < 4004 then
          if 0 ≤ x6 ∧ x6 < 4004 then
            Run K tb_Mo_mean 122 [vR 12 0 a0, vI x1, vI x2, vL x3, d4, vI x5, vI (w32 (x6 + 1))] [] S (up M b1 x6.toNat (M b2 (w32 (2860 + x6)).toNat))
          else none
        else none
  else
    Run K tb_Mo_mean 95 [vR 12 0 a0, vI x1, vI x2, vL x3, d4, vI (w32 (x5 + 1)), vI x6] [] S M := (Run_EE K tb_Mo_mean [61, 95, 122] 500 122 _ _ S M).trans rfl
set_option maxRecDepth 100000 in
theorem b_Mo_mark_0 (K : Cal) (a0 : Nat) (S : Sp) (M : Mm) : Run K tb_Mo_mark 0 [vR 12 0 a0] [] S M =
  if M a0 41 = 3 then
    bndI (K m_Mo_refuse [vR 12 0 a0, vI 4] S M) fun r1 S1 M1 =>
    some (some (vI r1), S1, M1)
  else
    bndV (K m_Mo_copies [vR 12 0 a0, vI 0, vI ((up M a0 41 (w32 ((M a0 41) + 1))) a0 41)] S (up M a0 41 (w32 ((M a0 41) + 1)))) fun S2 M2 =>
    bndI (K m_Mo_gives [vR 12 0 a0, vI (M2 a0 41)] S2 M2) fun r3 S3 M3 =>
    some (some (vI r3), S3, M3) := (Run_EE K tb_Mo_mark [] 500 0 _ _ S M).trans rfl
set_option maxRecDepth 100000 in
theorem b_Mo_copies_0 (K : Cal) (a0 : Nat) (x1 : Int) (x2 : Int) (S : Sp) (M : Mm) : Run K tb_Mo_copies 0 [vR 12 0 a0, vI x1, vI x2, vU] [] S M =
  Run K tb_Mo_copies 2 [vR 12 0 a0, vI x1, vI x2, vI 0] [] S M := (Run_EE K tb_Mo_copies [2, 41] 500 0 _ _ S M).trans rfl
set_option maxRecDepth 100000 in
theorem b_Mo_copies_2 (K : Cal) (a0 : Nat) (x1 : Int) (x2 : Int) (x3 : Int) (S : Sp) (M : Mm) : Run K tb_Mo_copies 2 [vR 12 0 a0, vI x1, vI x2, vI x3] [] S M =
  if x3 < 572 then
    bR (refOf S a0 0) fun b1 =>
    bR (refOf S a0 0) fun b2 =>
      if 0 ≤ w32 ((w32 (572 * x1)) + x3) ∧ w32 ((w32 (572 * x1)) + x3) < 4004 then
          if 0 ≤ w32 ((w32 (572 * x2)) + x3) ∧ w32 ((w32 (572 * x2)) + x3) < 4004 then
            Run K tb_Mo_copies 2 [vR 12 0 a0, vI x1, vI x2, vI (w32 (x3 + 1))] [] S (up M b1 (w32 ((w32 (572 * x2)) + x3)).toNat (M b2 (w32 ((w32 (572 * x1)) + x3)).toNat))
          else none
        else none
  else
    Run K tb_Mo_copies 41 [vR 12 0 a0, vI x1, vI x2, vI 0] [] S M := (Run_EE K tb_Mo_copies [2, 41] 500 2 _ _ S M).trans rfl
set_option maxRecDepth 100000 in
theorem b_Mo_copies_41 (K : Cal) (a0 : Nat) (x1 : Int) (x2 : Int) (x3 : Int) (S : Sp) (M : Mm) : Run K tb_Mo_copies 41 [vR 12 0 a0, vI x1, vI x2, vI x3] [] S M =
  if x3 < 24 then
    bR (refOf S a0 1) fun b1 =>
    bR (refOf S a0 1) fun b2 =>
      if 0 ≤ w32 ((w32 (24 * x1)) + x3) ∧ w32 ((w32 (24 * x1)) + x3) < 144 then
          if 0 ≤ w32 ((w32 (24 * x2)) + x3) ∧ w32 ((w32 (24 * x2)) + x3) < 144 then
            Run K tb_Mo_copies 41 [vR 12 0 a0, vI x1, vI x2, vI (w32 (x3 + 1))] [] S (up M b1 (w32 ((w32 (24 * x2)) + x3)).toNat (M b2 (w32 ((w32 (24 * x1)) + x3)).toNat))
          else none
        else none
  else
    some (none, S, M) := (Run_EE K tb_Mo_copies [2, 41] 500 41 _ _ S M).trans rfl
set_option maxRecDepth 100000 in
theorem b_Mo_undo_0 (K : Cal) (a0 : Nat) (S : Sp) (M : Mm) : Run K tb_Mo_undo 0 [vR 12 0 a0] [] S M =
  if M a0 41 = 0 then
    bndI (K m_Mo_refuse [vR 12 0 a0, vI 6] S M) fun r1 S1 M1 =>
    some (some (vI r1), S1, M1)
  else
    bndV (K m_Mo_copies [vR 12 0 a0, vI (M a0 41), vI 0] S M) fun S2 M2 =>
    bndI (K m_Mo_gives [vR 12 0 a0, vI ((up M2 a0 41 (w32 ((M2 a0 41) - 1))) a0 41)] S2 (up M2 a0 41 (w32 ((M2 a0 41) - 1)))) fun r3 S3 M3 =>
    some (some (vI r3), S3, M3) := (Run_EE K tb_Mo_undo [] 500 0 _ _ S M).trans rfl

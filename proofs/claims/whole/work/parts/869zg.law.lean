/-! THE LAW, block by block -/
def lwCuts : List Nat := [18, 312, 325, 339, 353, 396, 469, 503, 566, 629, 652, 675, 698, 721, 754, 787, 810, 843, 876, 909, 942, 975, 1018, 1041, 1064, 1097, 1130, 1163, 1186, 1219, 1242, 1265, 1308, 1351, 1394, 1427, 1450, 1503, 1526, 1585, 1628, 1661, 1694, 1727, 1750, 1783, 1816, 1839, 1862, 1895, 1928, 1961, 1984, 2007, 2040, 2083, 2116, 2149, 2172, 2205, 2248, 2291, 2334, 2357, 2380, 2413, 2426, 2439]
set_option maxRecDepth 100000 in
theorem b_Law_0 (K : Cal) (a0 : Nat) (n0 : Int) (S : Sp) (M : Mm) : Run K tb_Law_law 0 [vR 29 n0 a0, vU, vU, vU] [] S M =
  bndV (K m_Ca_init [vR 11 0 S.length] (S ++ [(11, 0, List.replicate 18 none)]) M) fun S1 M1 =>
  bndV (K m_Mo_init [vR 12 0 S1.length] (S1 ++ [(12, 0, List.replicate 42 none)]) M1) fun S2 M2 =>
  Run K tb_Law_law 18 [vR 29 n0 a0, vR 11 0 S.length, vR 12 0 S1.length, vI 0] [] S2 M2 := (Run_EE K tb_Law_law lwCuts 500 0 _ _ S M).trans rfl
set_option maxRecDepth 100000 in
theorem b_Law_18 (K : Cal) (a0 : Nat) (n0 : Int) (a1 : Nat) (a2 : Nat) (x3 : Int) (S : Sp) (M : Mm) : Run K tb_Law_law 18 [vR 29 n0 a0, vR 11 0 a1, vR 12 0 a2, vI x3] [] S M =
  if w32 (n0 - 6) < x3 then
    some (some (vI 1), S, M)
  else
    if 0 ≤ x3 ∧ x3 < n0 then
      if and32 (M a0 x3.toNat) 127 = 0 then
        Run K tb_Law_law 312 [vR 29 n0 a0, vR 11 0 a1, vR 12 0 a2, vI x3] [] S M
      else if and32 (M a0 x3.toNat) 127 = 1 then
        Run K tb_Law_law 325 [vR 29 n0 a0, vR 11 0 a1, vR 12 0 a2, vI x3] [] S M
      else if and32 (M a0 x3.toNat) 127 = 2 then
        Run K tb_Law_law 339 [vR 29 n0 a0, vR 11 0 a1, vR 12 0 a2, vI x3] [] S M
      else if and32 (M a0 x3.toNat) 127 = 3 then
        Run K tb_Law_law 353 [vR 29 n0 a0, vR 11 0 a1, vR 12 0 a2, vI x3] [] S M
      else if and32 (M a0 x3.toNat) 127 = 4 then
        Run K tb_Law_law 396 [vR 29 n0 a0, vR 11 0 a1, vR 12 0 a2, vI x3] [] S M
      else if and32 (M a0 x3.toNat) 127 = 5 then
        Run K tb_Law_law 469 [vR 29 n0 a0, vR 11 0 a1, vR 12 0 a2, vI x3] [] S M
      else if and32 (M a0 x3.toNat) 127 = 6 then
        Run K tb_Law_law 503 [vR 29 n0 a0, vR 11 0 a1, vR 12 0 a2, vI x3] [] S M
      else if and32 (M a0 x3.toNat) 127 = 7 then
        Run K tb_Law_law 566 [vR 29 n0 a0, vR 11 0 a1, vR 12 0 a2, vI x3] [] S M
      else if and32 (M a0 x3.toNat) 127 = 8 then
        Run K tb_Law_law 629 [vR 29 n0 a0, vR 11 0 a1, vR 12 0 a2, vI x3] [] S M
      else if and32 (M a0 x3.toNat) 127 = 9 then
        Run K tb_Law_law 652 [vR 29 n0 a0, vR 11 0 a1, vR 12 0 a2, vI x3] [] S M
      else if and32 (M a0 x3.toNat) 127 = 10 then
        Run K tb_Law_law 675 [vR 29 n0 a0, vR 11 0 a1, vR 12 0 a2, vI x3] [] S M
      else if and32 (M a0 x3.toNat) 127 = 11 then
        Run K tb_Law_law 698 [vR 29 n0 a0, vR 11 0 a1, vR 12 0 a2, vI x3] [] S M
      else if and32 (M a0 x3.toNat) 127 = 12 then
        Run K tb_Law_law 721 [vR 29 n0 a0, vR 11 0 a1, vR 12 0 a2, vI x3] [] S M
      else if and32 (M a0 x3.toNat) 127 = 13 then
        Run K tb_Law_law 754 [vR 29 n0 a0, vR 11 0 a1, vR 12 0 a2, vI x3] [] S M
      else if and32 (M a0 x3.toNat) 127 = 14 then
        Run K tb_Law_law 787 [vR 29 n0 a0, vR 11 0 a1, vR 12 0 a2, vI x3] [] S M
      else if and32 (M a0 x3.toNat) 127 = 15 then
        Run K tb_Law_law 810 [vR 29 n0 a0, vR 11 0 a1, vR 12 0 a2, vI x3] [] S M
      else if and32 (M a0 x3.toNat) 127 = 16 then
        Run K tb_Law_law 843 [vR 29 n0 a0, vR 11 0 a1, vR 12 0 a2, vI x3] [] S M
      else if and32 (M a0 x3.toNat) 127 = 17 then
        Run K tb_Law_law 876 [vR 29 n0 a0, vR 11 0 a1, vR 12 0 a2, vI x3] [] S M
      else if and32 (M a0 x3.toNat) 127 = 18 then
        Run K tb_Law_law 909 [vR 29 n0 a0, vR 11 0 a1, vR 12 0 a2, vI x3] [] S M
      else if and32 (M a0 x3.toNat) 127 = 19 then
        Run K tb_Law_law 942 [vR 29 n0 a0, vR 11 0 a1, vR 12 0 a2, vI x3] [] S M
      else if and32 (M a0 x3.toNat) 127 = 20 then
        Run K tb_Law_law 975 [vR 29 n0 a0, vR 11 0 a1, vR 12 0 a2, vI x3] [] S M
      else if and32 (M a0 x3.toNat) 127 = 21 then
        Run K tb_Law_law 1018 [vR 29 n0 a0, vR 11 0 a1, vR 12 0 a2, vI x3] [] S M
      else if and32 (M a0 x3.toNat) 127 = 22 then
        Run K tb_Law_law 1041 [vR 29 n0 a0, vR 11 0 a1, vR 12 0 a2, vI x3] [] S M
      else if and32 (M a0 x3.toNat) 127 = 23 then
        Run K tb_Law_law 1064 [vR 29 n0 a0, vR 11 0 a1, vR 12 0 a2, vI x3] [] S M
      else if and32 (M a0 x3.toNat) 127 = 24 then
        Run K tb_Law_law 1097 [vR 29 n0 a0, vR 11 0 a1, vR 12 0 a2, vI x3] [] S M
      else if and32 (M a0 x3.toNat) 127 = 25 then
        Run K tb_Law_law 1130 [vR 29 n0 a0, vR 11 0 a1, vR 12 0 a2, vI x3] [] S M
      else if and32 (M a0 x3.toNat) 127 = 26 then
        Run K tb_Law_law 1163 [vR 29 n0 a0, vR 11 0 a1, vR 12 0 a2, vI x3] [] S M
      else if and32 (M a0 x3.toNat) 127 = 27 then
        Run K tb_Law_law 1186 [vR 29 n0 a0, vR 11 0 a1, vR 12 0 a2, vI x3] [] S M
      else if and32 (M a0 x3.toNat) 127 = 28 then
        Run K tb_Law_law 1219 [vR 29 n0 a0, vR 11 0 a1, vR 12 0 a2, vI x3] [] S M
      else if and32 (M a0 x3.toNat) 127 = 29 then
        Run K tb_Law_law 1242 [vR 29 n0 a0, vR 11 0 a1, vR 12 0 a2, vI x3] [] S M
      else if and32 (M a0 x3.toNat) 127 = 30 then
        Run K tb_Law_law 1265 [vR 29 n0 a0, vR 11 0 a1, vR 12 0 a2, vI x3] [] S M
      else if and32 (M a0 x3.toNat) 127 = 31 then
        Run K tb_Law_law 1308 [vR 29 n0 a0, vR 11 0 a1, vR 12 0 a2, vI x3] [] S M
      else if and32 (M a0 x3.toNat) 127 = 32 then
        Run K tb_Law_law 1351 [vR 29 n0 a0, vR 11 0 a1, vR 12 0 a2, vI x3] [] S M
      else if and32 (M a0 x3.toNat) 127 = 33 then
        Run K tb_Law_law 1394 [vR 29 n0 a0, vR 11 0 a1, vR 12 0 a2, vI x3] [] S M
      else if and32 (M a0 x3.toNat) 127 = 34 then
        Run K tb_Law_law 1427 [vR 29 n0 a0, vR 11 0 a1, vR 12 0 a2, vI x3] [] S M
      else if and32 (M a0 x3.toNat) 127 = 35 then
        Run K tb_Law_law 1450 [vR 29 n0 a0, vR 11 0 a1, vR 12 0 a2, vI x3] [] S M
      else if and32 (M a0 x3.toNat) 127 = 36 then
        Run K tb_Law_law 1503 [vR 29 n0 a0, vR 11 0 a1, vR 12 0 a2, vI x3] [] S M
      else if and32 (M a0 x3.toNat) 127 = 37 then
        Run K tb_Law_law 1526 [vR 29 n0 a0, vR 11 0 a1, vR 12 0 a2, vI x3] [] S M
      else if and32 (M a0 x3.toNat) 127 = 38 then
        Run K tb_Law_law 1585 [vR 29 n0 a0, vR 11 0 a1, vR 12 0 a2, vI x3] [] S M
      else if and32 (M a0 x3.toNat) 127 = 39 then
        Run K tb_Law_law 1628 [vR 29 n0 a0, vR 11 0 a1, vR 12 0 a2, vI x3] [] S M
      else if and32 (M a0 x3.toNat) 127 = 40 then
        Run K tb_Law_law 1661 [vR 29 n0 a0, vR 11 0 a1, vR 12 0 a2, vI x3] [] S M
      else if and32 (M a0 x3.toNat) 127 = 41 then
        Run K tb_Law_law 1694 [vR 29 n0 a0, vR 11 0 a1, vR 12 0 a2, vI x3] [] S M
      else if and32 (M a0 x3.toNat) 127 = 42 then
        Run K tb_Law_law 1727 [vR 29 n0 a0, vR 11 0 a1, vR 12 0 a2, vI x3] [] S M
      else if and32 (M a0 x3.toNat) 127 = 43 then
        Run K tb_Law_law 1750 [vR 29 n0 a0, vR 11 0 a1, vR 12 0 a2, vI x3] [] S M
      else if and32 (M a0 x3.toNat) 127 = 44 then
        Run K tb_Law_law 1783 [vR 29 n0 a0, vR 11 0 a1, vR 12 0 a2, vI x3] [] S M
      else if and32 (M a0 x3.toNat) 127 = 45 then
        Run K tb_Law_law 1816 [vR 29 n0 a0, vR 11 0 a1, vR 12 0 a2, vI x3] [] S M
      else if and32 (M a0 x3.toNat) 127 = 46 then
        Run K tb_Law_law 1839 [vR 29 n0 a0, vR 11 0 a1, vR 12 0 a2, vI x3] [] S M
      else if and32 (M a0 x3.toNat) 127 = 47 then
        Run K tb_Law_law 1862 [vR 29 n0 a0, vR 11 0 a1, vR 12 0 a2, vI x3] [] S M
      else if and32 (M a0 x3.toNat) 127 = 48 then
        Run K tb_Law_law 1895 [vR 29 n0 a0, vR 11 0 a1, vR 12 0 a2, vI x3] [] S M
      else if and32 (M a0 x3.toNat) 127 = 49 then
        Run K tb_Law_law 1928 [vR 29 n0 a0, vR 11 0 a1, vR 12 0 a2, vI x3] [] S M
      else if and32 (M a0 x3.toNat) 127 = 50 then
        Run K tb_Law_law 1961 [vR 29 n0 a0, vR 11 0 a1, vR 12 0 a2, vI x3] [] S M
      else if and32 (M a0 x3.toNat) 127 = 51 then
        Run K tb_Law_law 1984 [vR 29 n0 a0, vR 11 0 a1, vR 12 0 a2, vI x3] [] S M
      else if and32 (M a0 x3.toNat) 127 = 52 then
        Run K tb_Law_law 2007 [vR 29 n0 a0, vR 11 0 a1, vR 12 0 a2, vI x3] [] S M
      else if and32 (M a0 x3.toNat) 127 = 53 then
        Run K tb_Law_law 2040 [vR 29 n0 a0, vR 11 0 a1, vR 12 0 a2, vI x3] [] S M
      else if and32 (M a0 x3.toNat) 127 = 54 then
        Run K tb_Law_law 2083 [vR 29 n0 a0, vR 11 0 a1, vR 12 0 a2, vI x3] [] S M
      else if and32 (M a0 x3.toNat) 127 = 55 then
        Run K tb_Law_law 2116 [vR 29 n0 a0, vR 11 0 a1, vR 12 0 a2, vI x3] [] S M
      else if and32 (M a0 x3.toNat) 127 = 56 then
        Run K tb_Law_law 2149 [vR 29 n0 a0, vR 11 0 a1, vR 12 0 a2, vI x3] [] S M
      else if and32 (M a0 x3.toNat) 127 = 57 then
        Run K tb_Law_law 2172 [vR 29 n0 a0, vR 11 0 a1, vR 12 0 a2, vI x3] [] S M
      else if and32 (M a0 x3.toNat) 127 = 58 then
        Run K tb_Law_law 2205 [vR 29 n0 a0, vR 11 0 a1, vR 12 0 a2, vI x3] [] S M
      else if and32 (M a0 x3.toNat) 127 = 59 then
        Run K tb_Law_law 2248 [vR 29 n0 a0, vR 11 0 a1, vR 12 0 a2, vI x3] [] S M
      else if and32 (M a0 x3.toNat) 127 = 60 then
        Run K tb_Law_law 2291 [vR 29 n0 a0, vR 11 0 a1, vR 12 0 a2, vI x3] [] S M
      else if and32 (M a0 x3.toNat) 127 = 61 then
        Run K tb_Law_law 2334 [vR 29 n0 a0, vR 11 0 a1, vR 12 0 a2, vI x3] [] S M
      else if and32 (M a0 x3.toNat) 127 = 62 then
        Run K tb_Law_law 2357 [vR 29 n0 a0, vR 11 0 a1, vR 12 0 a2, vI x3] [] S M
      else if and32 (M a0 x3.toNat) 127 = 63 then
        Run K tb_Law_law 2380 [vR 29 n0 a0, vR 11 0 a1, vR 12 0 a2, vI x3] [] S M
      else if and32 (M a0 x3.toNat) 127 = 64 then
        Run K tb_Law_law 2413 [vR 29 n0 a0, vR 11 0 a1, vR 12 0 a2, vI x3] [] S M
      else if and32 (M a0 x3.toNat) 127 = 65 then
        Run K tb_Law_law 2426 [vR 29 n0 a0, vR 11 0 a1, vR 12 0 a2, vI x3] [] S M
      else Run K tb_Law_law 2439 [vR 29 n0 a0, vR 11 0 a1, vR 12 0 a2, vI x3] [] S M
    else none := (Run_EE K tb_Law_law lwCuts 500 18 _ _ S M).trans rfl
set_option maxRecDepth 100000 in
theorem b_Law_312 (K : Cal) (a0 : Nat) (n0 : Int) (a1 : Nat) (a2 : Nat) (x3 : Int) (S : Sp) (M : Mm) : Run K tb_Law_law 312 [vR 29 n0 a0, vR 11 0 a1, vR 12 0 a2, vI x3] [] S M =
  bndI (K m_Ca_status [vR 11 0 a1] S M) fun r1 S1 M1 =>
  bndI (K m_Mo_status [vR 12 0 a2] S1 M1) fun r2 S2 M2 =>
  if r1 = r2 then
    Run K tb_Law_law 2439 [vR 29 n0 a0, vR 11 0 a1, vR 12 0 a2, vI x3] [] S2 M2
  else
    some (some (vI 0), S2, M2) := (Run_EE K tb_Law_law lwCuts 500 312 _ _ S M).trans rfl
set_option maxRecDepth 100000 in
theorem b_Law_325 (K : Cal) (a0 : Nat) (n0 : Int) (a1 : Nat) (a2 : Nat) (x3 : Int) (S : Sp) (M : Mm) : Run K tb_Law_law 325 [vR 29 n0 a0, vR 11 0 a1, vR 12 0 a2, vI x3] [] S M =
  bndL (K m_Ca_top [vR 11 0 a1] S M) fun r1 S1 M1 =>
  bndL (K m_Mo_top [vR 12 0 a2] S1 M1) fun r2 S2 M2 =>
  if cmp3 r1 r2 = 0 then
    Run K tb_Law_law 2439 [vR 29 n0 a0, vR 11 0 a1, vR 12 0 a2, vI x3] [] S2 M2
  else
    some (some (vI 0), S2, M2) := (Run_EE K tb_Law_law lwCuts 500 325 _ _ S M).trans rfl
set_option maxRecDepth 100000 in
theorem b_Law_339 (K : Cal) (a0 : Nat) (n0 : Int) (a1 : Nat) (a2 : Nat) (x3 : Int) (S : Sp) (M : Mm) : Run K tb_Law_law 339 [vR 29 n0 a0, vR 11 0 a1, vR 12 0 a2, vI x3] [] S M =
  bndL (K m_Ca_bottom [vR 11 0 a1] S M) fun r1 S1 M1 =>
  bndL (K m_Mo_bottom [vR 12 0 a2] S1 M1) fun r2 S2 M2 =>
  if cmp3 r1 r2 = 0 then
    Run K tb_Law_law 2439 [vR 29 n0 a0, vR 11 0 a1, vR 12 0 a2, vI x3] [] S2 M2
  else
    some (some (vI 0), S2, M2) := (Run_EE K tb_Law_law lwCuts 500 339 _ _ S M).trans rfl
set_option maxRecDepth 100000 in
theorem b_Law_353 (K : Cal) (a0 : Nat) (n0 : Int) (a1 : Nat) (a2 : Nat) (x3 : Int) (S : Sp) (M : Mm) : Run K tb_Law_law 353 [vR 29 n0 a0, vR 11 0 a1, vR 12 0 a2, vI x3] [] S M =
  if 0 ≤ w32 (x3 + 1) ∧ w32 (x3 + 1) < n0 then
    if 0 ≤ w32 (x3 + 2) ∧ w32 (x3 + 2) < n0 then
      if 0 ≤ w32 (x3 + 3) ∧ w32 (x3 + 3) < n0 then
        bndI (K m_Ca_tray [vR 11 0 a1, vI (M a0 (w32 (x3 + 1)).toNat), vI (M a0 (w32 (x3 + 2)).toNat), vI (M a0 (w32 (x3 + 3)).toNat)] S M) fun r1 S1 M1 =>
        if 0 ≤ w32 (x3 + 1) ∧ w32 (x3 + 1) < n0 then
          if 0 ≤ w32 (x3 + 2) ∧ w32 (x3 + 2) < n0 then
            if 0 ≤ w32 (x3 + 3) ∧ w32 (x3 + 3) < n0 then
              bndI (K m_Mo_tray [vR 12 0 a2, vI (M1 a0 (w32 (x3 + 1)).toNat), vI (M1 a0 (w32 (x3 + 2)).toNat), vI (M1 a0 (w32 (x3 + 3)).toNat)] S1 M1) fun r2 S2 M2 =>
              if r1 = r2 then
                Run K tb_Law_law 2439 [vR 29 n0 a0, vR 11 0 a1, vR 12 0 a2, vI x3] [] S2 M2
              else
                some (some (vI 0), S2, M2)
            else none
          else none
        else none
      else none
    else none
  else none := (Run_EE K tb_Law_law lwCuts 500 353 _ _ S M).trans rfl
set_option maxRecDepth 100000 in
theorem b_Law_396 (K : Cal) (a0 : Nat) (n0 : Int) (a1 : Nat) (a2 : Nat) (x3 : Int) (S : Sp) (M : Mm) : Run K tb_Law_law 396 [vR 29 n0 a0, vR 11 0 a1, vR 12 0 a2, vI x3] [] S M =
  if 0 ≤ w32 (x3 + 1) ∧ w32 (x3 + 1) < n0 then
    if 0 ≤ w32 (x3 + 2) ∧ w32 (x3 + 2) < n0 then
      if 0 ≤ w32 (x3 + 3) ∧ w32 (x3 + 3) < n0 then
        if 0 ≤ w32 (x3 + 4) ∧ w32 (x3 + 4) < n0 then
          bndI (K m_Ca_write [vR 11 0 a1, vI (M a0 (w32 (x3 + 1)).toNat), vI (M a0 (w32 (x3 + 2)).toNat), vL (or64 (shl64 (M a0 (w32 (x3 + 3)).toNat) 32) (and64 (M a0 (w32 (x3 + 4)).toNat) 4294967295))] S M) fun r1 S1 M1 =>
          if 0 ≤ w32 (x3 + 1) ∧ w32 (x3 + 1) < n0 then
            if 0 ≤ w32 (x3 + 2) ∧ w32 (x3 + 2) < n0 then
              if 0 ≤ w32 (x3 + 3) ∧ w32 (x3 + 3) < n0 then
                if 0 ≤ w32 (x3 + 4) ∧ w32 (x3 + 4) < n0 then
                  bndI (K m_Mo_write [vR 12 0 a2, vI (M1 a0 (w32 (x3 + 1)).toNat), vI (M1 a0 (w32 (x3 + 2)).toNat), vL (or64 (shl64 (M1 a0 (w32 (x3 + 3)).toNat) 32) (and64 (M1 a0 (w32 (x3 + 4)).toNat) 4294967295))] S1 M1) fun r2 S2 M2 =>
                  if r1 = r2 then
                    Run K tb_Law_law 2439 [vR 29 n0 a0, vR 11 0 a1, vR 12 0 a2, vI x3] [] S2 M2
                  else
                    some (some (vI 0), S2, M2)
                else none
              else none
            else none
          else none
        else none
      else none
    else none
  else none := (Run_EE K tb_Law_law lwCuts 500 396 _ _ S M).trans rfl
set_option maxRecDepth 100000 in
theorem b_Law_469 (K : Cal) (a0 : Nat) (n0 : Int) (a1 : Nat) (a2 : Nat) (x3 : Int) (S : Sp) (M : Mm) : Run K tb_Law_law 469 [vR 29 n0 a0, vR 11 0 a1, vR 12 0 a2, vI x3] [] S M =
  if 0 ≤ w32 (x3 + 1) ∧ w32 (x3 + 1) < n0 then
    if 0 ≤ w32 (x3 + 2) ∧ w32 (x3 + 2) < n0 then
      bndL (K m_Ca_read [vR 11 0 a1, vI (M a0 (w32 (x3 + 1)).toNat), vI (M a0 (w32 (x3 + 2)).toNat)] S M) fun r1 S1 M1 =>
      if 0 ≤ w32 (x3 + 1) ∧ w32 (x3 + 1) < n0 then
        if 0 ≤ w32 (x3 + 2) ∧ w32 (x3 + 2) < n0 then
          bndL (K m_Mo_read [vR 12 0 a2, vI (M1 a0 (w32 (x3 + 1)).toNat), vI (M1 a0 (w32 (x3 + 2)).toNat)] S1 M1) fun r2 S2 M2 =>
          if cmp3 r1 r2 = 0 then
            Run K tb_Law_law 2439 [vR 29 n0 a0, vR 11 0 a1, vR 12 0 a2, vI x3] [] S2 M2
          else
            some (some (vI 0), S2, M2)
        else none
      else none
    else none
  else none := (Run_EE K tb_Law_law lwCuts 500 469 _ _ S M).trans rfl
set_option maxRecDepth 100000 in
theorem b_Law_503 (K : Cal) (a0 : Nat) (n0 : Int) (a1 : Nat) (a2 : Nat) (x3 : Int) (S : Sp) (M : Mm) : Run K tb_Law_law 503 [vR 29 n0 a0, vR 11 0 a1, vR 12 0 a2, vI x3] [] S M =
  if 0 ≤ w32 (x3 + 1) ∧ w32 (x3 + 1) < n0 then
    if 0 ≤ w32 (x3 + 2) ∧ w32 (x3 + 2) < n0 then
      if 0 ≤ w32 (x3 + 3) ∧ w32 (x3 + 3) < n0 then
        if 0 ≤ w32 (x3 + 4) ∧ w32 (x3 + 4) < n0 then
          if 0 ≤ w32 (x3 + 5) ∧ w32 (x3 + 5) < n0 then
            bndI (K m_Ca_pour [vR 11 0 a1, vI (M a0 (w32 (x3 + 1)).toNat), vI (M a0 (w32 (x3 + 2)).toNat), vI (M a0 (w32 (x3 + 3)).toNat), vI (M a0 (w32 (x3 + 4)).toNat), vI (M a0 (w32 (x3 + 5)).toNat)] S M) fun r1 S1 M1 =>
            if 0 ≤ w32 (x3 + 1) ∧ w32 (x3 + 1) < n0 then
              if 0 ≤ w32 (x3 + 2) ∧ w32 (x3 + 2) < n0 then
                if 0 ≤ w32 (x3 + 3) ∧ w32 (x3 + 3) < n0 then
                  if 0 ≤ w32 (x3 + 4) ∧ w32 (x3 + 4) < n0 then
                    if 0 ≤ w32 (x3 + 5) ∧ w32 (x3 + 5) < n0 then
                      bndI (K m_Mo_pour [vR 12 0 a2, vI (M1 a0 (w32 (x3 + 1)).toNat), vI (M1 a0 (w32 (x3 + 2)).toNat), vI (M1 a0 (w32 (x3 + 3)).toNat), vI (M1 a0 (w32 (x3 + 4)).toNat), vI (M1 a0 (w32 (x3 + 5)).toNat)] S1 M1) fun r2 S2 M2 =>
                      if r1 = r2 then
                        Run K tb_Law_law 2439 [vR 29 n0 a0, vR 11 0 a1, vR 12 0 a2, vI x3] [] S2 M2
                      else
                        some (some (vI 0), S2, M2)
                    else none
                  else none
                else none
              else none
            else none
          else none
        else none
      else none
    else none
  else none := (Run_EE K tb_Law_law lwCuts 500 503 _ _ S M).trans rfl
set_option maxRecDepth 100000 in
theorem b_Law_566 (K : Cal) (a0 : Nat) (n0 : Int) (a1 : Nat) (a2 : Nat) (x3 : Int) (S : Sp) (M : Mm) : Run K tb_Law_law 566 [vR 29 n0 a0, vR 11 0 a1, vR 12 0 a2, vI x3] [] S M =
  if 0 ≤ w32 (x3 + 1) ∧ w32 (x3 + 1) < n0 then
    if 0 ≤ w32 (x3 + 2) ∧ w32 (x3 + 2) < n0 then
      if 0 ≤ w32 (x3 + 3) ∧ w32 (x3 + 3) < n0 then
        if 0 ≤ w32 (x3 + 4) ∧ w32 (x3 + 4) < n0 then
          if 0 ≤ w32 (x3 + 5) ∧ w32 (x3 + 5) < n0 then
            bndI (K m_Ca_feed [vR 11 0 a1, vI (M a0 (w32 (x3 + 1)).toNat), vI (M a0 (w32 (x3 + 2)).toNat), vI (M a0 (w32 (x3 + 3)).toNat), vI (M a0 (w32 (x3 + 4)).toNat), vI (M a0 (w32 (x3 + 5)).toNat)] S M) fun r1 S1 M1 =>
            if 0 ≤ w32 (x3 + 1) ∧ w32 (x3 + 1) < n0 then
              if 0 ≤ w32 (x3 + 2) ∧ w32 (x3 + 2) < n0 then
                if 0 ≤ w32 (x3 + 3) ∧ w32 (x3 + 3) < n0 then
                  if 0 ≤ w32 (x3 + 4) ∧ w32 (x3 + 4) < n0 then
                    if 0 ≤ w32 (x3 + 5) ∧ w32 (x3 + 5) < n0 then
                      bndI (K m_Mo_feed [vR 12 0 a2, vI (M1 a0 (w32 (x3 + 1)).toNat), vI (M1 a0 (w32 (x3 + 2)).toNat), vI (M1 a0 (w32 (x3 + 3)).toNat), vI (M1 a0 (w32 (x3 + 4)).toNat), vI (M1 a0 (w32 (x3 + 5)).toNat)] S1 M1) fun r2 S2 M2 =>
                      if r1 = r2 then
                        Run K tb_Law_law 2439 [vR 29 n0 a0, vR 11 0 a1, vR 12 0 a2, vI x3] [] S2 M2
                      else
                        some (some (vI 0), S2, M2)
                    else none
                  else none
                else none
              else none
            else none
          else none
        else none
      else none
    else none
  else none := (Run_EE K tb_Law_law lwCuts 500 566 _ _ S M).trans rfl
set_option maxRecDepth 100000 in
theorem b_Law_629 (K : Cal) (a0 : Nat) (n0 : Int) (a1 : Nat) (a2 : Nat) (x3 : Int) (S : Sp) (M : Mm) : Run K tb_Law_law 629 [vR 29 n0 a0, vR 11 0 a1, vR 12 0 a2, vI x3] [] S M =
  if 0 ≤ w32 (x3 + 1) ∧ w32 (x3 + 1) < n0 then
    bndI (K m_Ca_world [vR 11 0 a1, vI (M a0 (w32 (x3 + 1)).toNat)] S M) fun r1 S1 M1 =>
    if 0 ≤ w32 (x3 + 1) ∧ w32 (x3 + 1) < n0 then
      bndI (K m_Mo_world [vR 12 0 a2, vI (M1 a0 (w32 (x3 + 1)).toNat)] S1 M1) fun r2 S2 M2 =>
      if r1 = r2 then
        Run K tb_Law_law 2439 [vR 29 n0 a0, vR 11 0 a1, vR 12 0 a2, vI x3] [] S2 M2
      else
        some (some (vI 0), S2, M2)
    else none
  else none := (Run_EE K tb_Law_law lwCuts 500 629 _ _ S M).trans rfl
set_option maxRecDepth 100000 in
theorem b_Law_652 (K : Cal) (a0 : Nat) (n0 : Int) (a1 : Nat) (a2 : Nat) (x3 : Int) (S : Sp) (M : Mm) : Run K tb_Law_law 652 [vR 29 n0 a0, vR 11 0 a1, vR 12 0 a2, vI x3] [] S M =
  if 0 ≤ w32 (x3 + 1) ∧ w32 (x3 + 1) < n0 then
    bndI (K m_Ca_voyages [vR 11 0 a1, vI (M a0 (w32 (x3 + 1)).toNat)] S M) fun r1 S1 M1 =>
    if 0 ≤ w32 (x3 + 1) ∧ w32 (x3 + 1) < n0 then
      bndI (K m_Mo_voyages [vR 12 0 a2, vI (M1 a0 (w32 (x3 + 1)).toNat)] S1 M1) fun r2 S2 M2 =>
      if r1 = r2 then
        Run K tb_Law_law 2439 [vR 29 n0 a0, vR 11 0 a1, vR 12 0 a2, vI x3] [] S2 M2
      else
        some (some (vI 0), S2, M2)
    else none
  else none := (Run_EE K tb_Law_law lwCuts 500 652 _ _ S M).trans rfl
set_option maxRecDepth 100000 in
theorem b_Law_675 (K : Cal) (a0 : Nat) (n0 : Int) (a1 : Nat) (a2 : Nat) (x3 : Int) (S : Sp) (M : Mm) : Run K tb_Law_law 675 [vR 29 n0 a0, vR 11 0 a1, vR 12 0 a2, vI x3] [] S M =
  if 0 ≤ w32 (x3 + 1) ∧ w32 (x3 + 1) < n0 then
    bndI (K m_Ca_fault [vR 11 0 a1, vI (M a0 (w32 (x3 + 1)).toNat)] S M) fun r1 S1 M1 =>
    if 0 ≤ w32 (x3 + 1) ∧ w32 (x3 + 1) < n0 then
      bndI (K m_Mo_fault [vR 12 0 a2, vI (M1 a0 (w32 (x3 + 1)).toNat)] S1 M1) fun r2 S2 M2 =>
      if r1 = r2 then
        Run K tb_Law_law 2439 [vR 29 n0 a0, vR 11 0 a1, vR 12 0 a2, vI x3] [] S2 M2
      else
        some (some (vI 0), S2, M2)
    else none
  else none := (Run_EE K tb_Law_law lwCuts 500 675 _ _ S M).trans rfl
set_option maxRecDepth 100000 in
theorem b_Law_698 (K : Cal) (a0 : Nat) (n0 : Int) (a1 : Nat) (a2 : Nat) (x3 : Int) (S : Sp) (M : Mm) : Run K tb_Law_law 698 [vR 29 n0 a0, vR 11 0 a1, vR 12 0 a2, vI x3] [] S M =
  if 0 ≤ w32 (x3 + 1) ∧ w32 (x3 + 1) < n0 then
    bndI (K m_Ca_told [vR 11 0 a1, vI (M a0 (w32 (x3 + 1)).toNat)] S M) fun r1 S1 M1 =>
    if 0 ≤ w32 (x3 + 1) ∧ w32 (x3 + 1) < n0 then
      bndI (K m_Mo_told [vR 12 0 a2, vI (M1 a0 (w32 (x3 + 1)).toNat)] S1 M1) fun r2 S2 M2 =>
      if r1 = r2 then
        Run K tb_Law_law 2439 [vR 29 n0 a0, vR 11 0 a1, vR 12 0 a2, vI x3] [] S2 M2
      else
        some (some (vI 0), S2, M2)
    else none
  else none := (Run_EE K tb_Law_law lwCuts 500 698 _ _ S M).trans rfl
set_option maxRecDepth 100000 in
theorem b_Law_721 (K : Cal) (a0 : Nat) (n0 : Int) (a1 : Nat) (a2 : Nat) (x3 : Int) (S : Sp) (M : Mm) : Run K tb_Law_law 721 [vR 29 n0 a0, vR 11 0 a1, vR 12 0 a2, vI x3] [] S M =
  if 0 ≤ w32 (x3 + 1) ∧ w32 (x3 + 1) < n0 then
    if 0 ≤ w32 (x3 + 2) ∧ w32 (x3 + 2) < n0 then
      bndI (K m_Ca_nation [vR 11 0 a1, vI (M a0 (w32 (x3 + 1)).toNat), vI (M a0 (w32 (x3 + 2)).toNat)] S M) fun r1 S1 M1 =>
      if 0 ≤ w32 (x3 + 1) ∧ w32 (x3 + 1) < n0 then
        if 0 ≤ w32 (x3 + 2) ∧ w32 (x3 + 2) < n0 then
          bndI (K m_Mo_nation [vR 12 0 a2, vI (M1 a0 (w32 (x3 + 1)).toNat), vI (M1 a0 (w32 (x3 + 2)).toNat)] S1 M1) fun r2 S2 M2 =>
          if r1 = r2 then
            Run K tb_Law_law 2439 [vR 29 n0 a0, vR 11 0 a1, vR 12 0 a2, vI x3] [] S2 M2
          else
            some (some (vI 0), S2, M2)
        else none
      else none
    else none
  else none := (Run_EE K tb_Law_law lwCuts 500 721 _ _ S M).trans rfl
set_option maxRecDepth 100000 in
theorem b_Law_754 (K : Cal) (a0 : Nat) (n0 : Int) (a1 : Nat) (a2 : Nat) (x3 : Int) (S : Sp) (M : Mm) : Run K tb_Law_law 754 [vR 29 n0 a0, vR 11 0 a1, vR 12 0 a2, vI x3] [] S M =
  if 0 ≤ w32 (x3 + 1) ∧ w32 (x3 + 1) < n0 then
    if 0 ≤ w32 (x3 + 2) ∧ w32 (x3 + 2) < n0 then
      bndI (K m_Ca_good [vR 11 0 a1, vI (M a0 (w32 (x3 + 1)).toNat), vI (M a0 (w32 (x3 + 2)).toNat)] S M) fun r1 S1 M1 =>
      if 0 ≤ w32 (x3 + 1) ∧ w32 (x3 + 1) < n0 then
        if 0 ≤ w32 (x3 + 2) ∧ w32 (x3 + 2) < n0 then
          bndI (K m_Mo_good [vR 12 0 a2, vI (M1 a0 (w32 (x3 + 1)).toNat), vI (M1 a0 (w32 (x3 + 2)).toNat)] S1 M1) fun r2 S2 M2 =>
          if r1 = r2 then
            Run K tb_Law_law 2439 [vR 29 n0 a0, vR 11 0 a1, vR 12 0 a2, vI x3] [] S2 M2
          else
            some (some (vI 0), S2, M2)
        else none
      else none
    else none
  else none := (Run_EE K tb_Law_law lwCuts 500 754 _ _ S M).trans rfl
set_option maxRecDepth 100000 in
theorem b_Law_787 (K : Cal) (a0 : Nat) (n0 : Int) (a1 : Nat) (a2 : Nat) (x3 : Int) (S : Sp) (M : Mm) : Run K tb_Law_law 787 [vR 29 n0 a0, vR 11 0 a1, vR 12 0 a2, vI x3] [] S M =
  if 0 ≤ w32 (x3 + 1) ∧ w32 (x3 + 1) < n0 then
    bndI (K m_Ca_portOf [vR 11 0 a1, vI (M a0 (w32 (x3 + 1)).toNat)] S M) fun r1 S1 M1 =>
    if 0 ≤ w32 (x3 + 1) ∧ w32 (x3 + 1) < n0 then
      bndI (K m_Mo_portOf [vR 12 0 a2, vI (M1 a0 (w32 (x3 + 1)).toNat)] S1 M1) fun r2 S2 M2 =>
      if r1 = r2 then
        Run K tb_Law_law 2439 [vR 29 n0 a0, vR 11 0 a1, vR 12 0 a2, vI x3] [] S2 M2
      else
        some (some (vI 0), S2, M2)
    else none
  else none := (Run_EE K tb_Law_law lwCuts 500 787 _ _ S M).trans rfl
set_option maxRecDepth 100000 in
theorem b_Law_810 (K : Cal) (a0 : Nat) (n0 : Int) (a1 : Nat) (a2 : Nat) (x3 : Int) (S : Sp) (M : Mm) : Run K tb_Law_law 810 [vR 29 n0 a0, vR 11 0 a1, vR 12 0 a2, vI x3] [] S M =
  if 0 ≤ w32 (x3 + 1) ∧ w32 (x3 + 1) < n0 then
    if 0 ≤ w32 (x3 + 2) ∧ w32 (x3 + 2) < n0 then
      bndI (K m_Ca_price [vR 11 0 a1, vI (M a0 (w32 (x3 + 1)).toNat), vI (M a0 (w32 (x3 + 2)).toNat)] S M) fun r1 S1 M1 =>
      if 0 ≤ w32 (x3 + 1) ∧ w32 (x3 + 1) < n0 then
        if 0 ≤ w32 (x3 + 2) ∧ w32 (x3 + 2) < n0 then
          bndI (K m_Mo_price [vR 12 0 a2, vI (M1 a0 (w32 (x3 + 1)).toNat), vI (M1 a0 (w32 (x3 + 2)).toNat)] S1 M1) fun r2 S2 M2 =>
          if r1 = r2 then
            Run K tb_Law_law 2439 [vR 29 n0 a0, vR 11 0 a1, vR 12 0 a2, vI x3] [] S2 M2
          else
            some (some (vI 0), S2, M2)
        else none
      else none
    else none
  else none := (Run_EE K tb_Law_law lwCuts 500 810 _ _ S M).trans rfl
set_option maxRecDepth 100000 in
theorem b_Law_843 (K : Cal) (a0 : Nat) (n0 : Int) (a1 : Nat) (a2 : Nat) (x3 : Int) (S : Sp) (M : Mm) : Run K tb_Law_law 843 [vR 29 n0 a0, vR 11 0 a1, vR 12 0 a2, vI x3] [] S M =
  if 0 ≤ w32 (x3 + 1) ∧ w32 (x3 + 1) < n0 then
    if 0 ≤ w32 (x3 + 2) ∧ w32 (x3 + 2) < n0 then
      bndI (K m_Ca_way [vR 11 0 a1, vI (M a0 (w32 (x3 + 1)).toNat), vI (M a0 (w32 (x3 + 2)).toNat)] S M) fun r1 S1 M1 =>
      if 0 ≤ w32 (x3 + 1) ∧ w32 (x3 + 1) < n0 then
        if 0 ≤ w32 (x3 + 2) ∧ w32 (x3 + 2) < n0 then
          bndI (K m_Mo_way [vR 12 0 a2, vI (M1 a0 (w32 (x3 + 1)).toNat), vI (M1 a0 (w32 (x3 + 2)).toNat)] S1 M1) fun r2 S2 M2 =>
          if r1 = r2 then
            Run K tb_Law_law 2439 [vR 29 n0 a0, vR 11 0 a1, vR 12 0 a2, vI x3] [] S2 M2
          else
            some (some (vI 0), S2, M2)
        else none
      else none
    else none
  else none := (Run_EE K tb_Law_law lwCuts 500 843 _ _ S M).trans rfl
set_option maxRecDepth 100000 in
theorem b_Law_876 (K : Cal) (a0 : Nat) (n0 : Int) (a1 : Nat) (a2 : Nat) (x3 : Int) (S : Sp) (M : Mm) : Run K tb_Law_law 876 [vR 29 n0 a0, vR 11 0 a1, vR 12 0 a2, vI x3] [] S M =
  if 0 ≤ w32 (x3 + 1) ∧ w32 (x3 + 1) < n0 then
    if 0 ≤ w32 (x3 + 2) ∧ w32 (x3 + 2) < n0 then
      bndI (K m_Ca_ship [vR 11 0 a1, vI (M a0 (w32 (x3 + 1)).toNat), vI (M a0 (w32 (x3 + 2)).toNat)] S M) fun r1 S1 M1 =>
      if 0 ≤ w32 (x3 + 1) ∧ w32 (x3 + 1) < n0 then
        if 0 ≤ w32 (x3 + 2) ∧ w32 (x3 + 2) < n0 then
          bndI (K m_Mo_ship [vR 12 0 a2, vI (M1 a0 (w32 (x3 + 1)).toNat), vI (M1 a0 (w32 (x3 + 2)).toNat)] S1 M1) fun r2 S2 M2 =>
          if r1 = r2 then
            Run K tb_Law_law 2439 [vR 29 n0 a0, vR 11 0 a1, vR 12 0 a2, vI x3] [] S2 M2
          else
            some (some (vI 0), S2, M2)
        else none
      else none
    else none
  else none := (Run_EE K tb_Law_law lwCuts 500 876 _ _ S M).trans rfl
set_option maxRecDepth 100000 in
theorem b_Law_909 (K : Cal) (a0 : Nat) (n0 : Int) (a1 : Nat) (a2 : Nat) (x3 : Int) (S : Sp) (M : Mm) : Run K tb_Law_law 909 [vR 29 n0 a0, vR 11 0 a1, vR 12 0 a2, vI x3] [] S M =
  if 0 ≤ w32 (x3 + 1) ∧ w32 (x3 + 1) < n0 then
    if 0 ≤ w32 (x3 + 2) ∧ w32 (x3 + 2) < n0 then
      bndI (K m_Ca_aboard [vR 11 0 a1, vI (M a0 (w32 (x3 + 1)).toNat), vI (M a0 (w32 (x3 + 2)).toNat)] S M) fun r1 S1 M1 =>
      if 0 ≤ w32 (x3 + 1) ∧ w32 (x3 + 1) < n0 then
        if 0 ≤ w32 (x3 + 2) ∧ w32 (x3 + 2) < n0 then
          bndI (K m_Mo_aboard [vR 12 0 a2, vI (M1 a0 (w32 (x3 + 1)).toNat), vI (M1 a0 (w32 (x3 + 2)).toNat)] S1 M1) fun r2 S2 M2 =>
          if r1 = r2 then
            Run K tb_Law_law 2439 [vR 29 n0 a0, vR 11 0 a1, vR 12 0 a2, vI x3] [] S2 M2
          else
            some (some (vI 0), S2, M2)
        else none
      else none
    else none
  else none := (Run_EE K tb_Law_law lwCuts 500 909 _ _ S M).trans rfl
set_option maxRecDepth 100000 in
theorem b_Law_942 (K : Cal) (a0 : Nat) (n0 : Int) (a1 : Nat) (a2 : Nat) (x3 : Int) (S : Sp) (M : Mm) : Run K tb_Law_law 942 [vR 29 n0 a0, vR 11 0 a1, vR 12 0 a2, vI x3] [] S M =
  if 0 ≤ w32 (x3 + 1) ∧ w32 (x3 + 1) < n0 then
    if 0 ≤ w32 (x3 + 2) ∧ w32 (x3 + 2) < n0 then
      bndI (K m_Ca_weight [vR 11 0 a1, vI (M a0 (w32 (x3 + 1)).toNat), vI (M a0 (w32 (x3 + 2)).toNat)] S M) fun r1 S1 M1 =>
      if 0 ≤ w32 (x3 + 1) ∧ w32 (x3 + 1) < n0 then
        if 0 ≤ w32 (x3 + 2) ∧ w32 (x3 + 2) < n0 then
          bndI (K m_Mo_weight [vR 12 0 a2, vI (M1 a0 (w32 (x3 + 1)).toNat), vI (M1 a0 (w32 (x3 + 2)).toNat)] S1 M1) fun r2 S2 M2 =>
          if r1 = r2 then
            Run K tb_Law_law 2439 [vR 29 n0 a0, vR 11 0 a1, vR 12 0 a2, vI x3] [] S2 M2
          else
            some (some (vI 0), S2, M2)
        else none
      else none
    else none
  else none := (Run_EE K tb_Law_law lwCuts 500 942 _ _ S M).trans rfl
set_option maxRecDepth 100000 in
theorem b_Law_975 (K : Cal) (a0 : Nat) (n0 : Int) (a1 : Nat) (a2 : Nat) (x3 : Int) (S : Sp) (M : Mm) : Run K tb_Law_law 975 [vR 29 n0 a0, vR 11 0 a1, vR 12 0 a2, vI x3] [] S M =
  if 0 ≤ w32 (x3 + 1) ∧ w32 (x3 + 1) < n0 then
    if 0 ≤ w32 (x3 + 2) ∧ w32 (x3 + 2) < n0 then
      if 0 ≤ w32 (x3 + 3) ∧ w32 (x3 + 3) < n0 then
        bndI (K m_Ca_weightBy [vR 11 0 a1, vI (M a0 (w32 (x3 + 1)).toNat), vI (M a0 (w32 (x3 + 2)).toNat), vI (M a0 (w32 (x3 + 3)).toNat)] S M) fun r1 S1 M1 =>
        if 0 ≤ w32 (x3 + 1) ∧ w32 (x3 + 1) < n0 then
          if 0 ≤ w32 (x3 + 2) ∧ w32 (x3 + 2) < n0 then
            if 0 ≤ w32 (x3 + 3) ∧ w32 (x3 + 3) < n0 then
              bndI (K m_Mo_weightBy [vR 12 0 a2, vI (M1 a0 (w32 (x3 + 1)).toNat), vI (M1 a0 (w32 (x3 + 2)).toNat), vI (M1 a0 (w32 (x3 + 3)).toNat)] S1 M1) fun r2 S2 M2 =>
              if r1 = r2 then
                Run K tb_Law_law 2439 [vR 29 n0 a0, vR 11 0 a1, vR 12 0 a2, vI x3] [] S2 M2
              else
                some (some (vI 0), S2, M2)
            else none
          else none
        else none
      else none
    else none
  else none := (Run_EE K tb_Law_law lwCuts 500 975 _ _ S M).trans rfl
set_option maxRecDepth 100000 in
theorem b_Law_1018 (K : Cal) (a0 : Nat) (n0 : Int) (a1 : Nat) (a2 : Nat) (x3 : Int) (S : Sp) (M : Mm) : Run K tb_Law_law 1018 [vR 29 n0 a0, vR 11 0 a1, vR 12 0 a2, vI x3] [] S M =
  if 0 ≤ w32 (x3 + 1) ∧ w32 (x3 + 1) < n0 then
    bndI (K m_Ca_captains [vR 11 0 a1, vI (M a0 (w32 (x3 + 1)).toNat)] S M) fun r1 S1 M1 =>
    if 0 ≤ w32 (x3 + 1) ∧ w32 (x3 + 1) < n0 then
      bndI (K m_Mo_captains [vR 12 0 a2, vI (M1 a0 (w32 (x3 + 1)).toNat)] S1 M1) fun r2 S2 M2 =>
      if r1 = r2 then
        Run K tb_Law_law 2439 [vR 29 n0 a0, vR 11 0 a1, vR 12 0 a2, vI x3] [] S2 M2
      else
        some (some (vI 0), S2, M2)
    else none
  else none := (Run_EE K tb_Law_law lwCuts 500 1018 _ _ S M).trans rfl
set_option maxRecDepth 100000 in
theorem b_Law_1041 (K : Cal) (a0 : Nat) (n0 : Int) (a1 : Nat) (a2 : Nat) (x3 : Int) (S : Sp) (M : Mm) : Run K tb_Law_law 1041 [vR 29 n0 a0, vR 11 0 a1, vR 12 0 a2, vI x3] [] S M =
  if 0 ≤ w32 (x3 + 1) ∧ w32 (x3 + 1) < n0 then
    bndI (K m_Ca_ruled [vR 11 0 a1, vI (M a0 (w32 (x3 + 1)).toNat)] S M) fun r1 S1 M1 =>
    if 0 ≤ w32 (x3 + 1) ∧ w32 (x3 + 1) < n0 then
      bndI (K m_Mo_ruled [vR 12 0 a2, vI (M1 a0 (w32 (x3 + 1)).toNat)] S1 M1) fun r2 S2 M2 =>
      if r1 = r2 then
        Run K tb_Law_law 2439 [vR 29 n0 a0, vR 11 0 a1, vR 12 0 a2, vI x3] [] S2 M2
      else
        some (some (vI 0), S2, M2)
    else none
  else none := (Run_EE K tb_Law_law lwCuts 500 1041 _ _ S M).trans rfl
set_option maxRecDepth 100000 in
theorem b_Law_1064 (K : Cal) (a0 : Nat) (n0 : Int) (a1 : Nat) (a2 : Nat) (x3 : Int) (S : Sp) (M : Mm) : Run K tb_Law_law 1064 [vR 29 n0 a0, vR 11 0 a1, vR 12 0 a2, vI x3] [] S M =
  if 0 ≤ w32 (x3 + 1) ∧ w32 (x3 + 1) < n0 then
    if 0 ≤ w32 (x3 + 2) ∧ w32 (x3 + 2) < n0 then
      bndI (K m_Ca_ruledBy [vR 11 0 a1, vI (M a0 (w32 (x3 + 1)).toNat), vI (M a0 (w32 (x3 + 2)).toNat)] S M) fun r1 S1 M1 =>
      if 0 ≤ w32 (x3 + 1) ∧ w32 (x3 + 1) < n0 then
        if 0 ≤ w32 (x3 + 2) ∧ w32 (x3 + 2) < n0 then
          bndI (K m_Mo_ruledBy [vR 12 0 a2, vI (M1 a0 (w32 (x3 + 1)).toNat), vI (M1 a0 (w32 (x3 + 2)).toNat)] S1 M1) fun r2 S2 M2 =>
          if r1 = r2 then
            Run K tb_Law_law 2439 [vR 29 n0 a0, vR 11 0 a1, vR 12 0 a2, vI x3] [] S2 M2
          else
            some (some (vI 0), S2, M2)
        else none
      else none
    else none
  else none := (Run_EE K tb_Law_law lwCuts 500 1064 _ _ S M).trans rfl
set_option maxRecDepth 100000 in
theorem b_Law_1097 (K : Cal) (a0 : Nat) (n0 : Int) (a1 : Nat) (a2 : Nat) (x3 : Int) (S : Sp) (M : Mm) : Run K tb_Law_law 1097 [vR 29 n0 a0, vR 11 0 a1, vR 12 0 a2, vI x3] [] S M =
  if 0 ≤ w32 (x3 + 1) ∧ w32 (x3 + 1) < n0 then
    if 0 ≤ w32 (x3 + 2) ∧ w32 (x3 + 2) < n0 then
      bndI (K m_Ca_share [vR 11 0 a1, vI (M a0 (w32 (x3 + 1)).toNat), vI (M a0 (w32 (x3 + 2)).toNat)] S M) fun r1 S1 M1 =>
      if 0 ≤ w32 (x3 + 1) ∧ w32 (x3 + 1) < n0 then
        if 0 ≤ w32 (x3 + 2) ∧ w32 (x3 + 2) < n0 then
          bndI (K m_Mo_share [vR 12 0 a2, vI (M1 a0 (w32 (x3 + 1)).toNat), vI (M1 a0 (w32 (x3 + 2)).toNat)] S1 M1) fun r2 S2 M2 =>
          if r1 = r2 then
            Run K tb_Law_law 2439 [vR 29 n0 a0, vR 11 0 a1, vR 12 0 a2, vI x3] [] S2 M2
          else
            some (some (vI 0), S2, M2)
        else none
      else none
    else none
  else none := (Run_EE K tb_Law_law lwCuts 500 1097 _ _ S M).trans rfl
set_option maxRecDepth 100000 in
theorem b_Law_1130 (K : Cal) (a0 : Nat) (n0 : Int) (a1 : Nat) (a2 : Nat) (x3 : Int) (S : Sp) (M : Mm) : Run K tb_Law_law 1130 [vR 29 n0 a0, vR 11 0 a1, vR 12 0 a2, vI x3] [] S M =
  if 0 ≤ w32 (x3 + 1) ∧ w32 (x3 + 1) < n0 then
    if 0 ≤ w32 (x3 + 2) ∧ w32 (x3 + 2) < n0 then
      bndI (K m_Ca_lawful [vR 11 0 a1, vI (M a0 (w32 (x3 + 1)).toNat), vI (M a0 (w32 (x3 + 2)).toNat)] S M) fun r1 S1 M1 =>
      if 0 ≤ w32 (x3 + 1) ∧ w32 (x3 + 1) < n0 then
        if 0 ≤ w32 (x3 + 2) ∧ w32 (x3 + 2) < n0 then
          bndI (K m_Mo_lawful [vR 12 0 a2, vI (M1 a0 (w32 (x3 + 1)).toNat), vI (M1 a0 (w32 (x3 + 2)).toNat)] S1 M1) fun r2 S2 M2 =>
          if r1 = r2 then
            Run K tb_Law_law 2439 [vR 29 n0 a0, vR 11 0 a1, vR 12 0 a2, vI x3] [] S2 M2
          else
            some (some (vI 0), S2, M2)
        else none
      else none
    else none
  else none := (Run_EE K tb_Law_law lwCuts 500 1130 _ _ S M).trans rfl
set_option maxRecDepth 100000 in
theorem b_Law_1163 (K : Cal) (a0 : Nat) (n0 : Int) (a1 : Nat) (a2 : Nat) (x3 : Int) (S : Sp) (M : Mm) : Run K tb_Law_law 1163 [vR 29 n0 a0, vR 11 0 a1, vR 12 0 a2, vI x3] [] S M =
  if 0 ≤ w32 (x3 + 1) ∧ w32 (x3 + 1) < n0 then
    bndI (K m_Ca_deeds [vR 11 0 a1, vI (M a0 (w32 (x3 + 1)).toNat)] S M) fun r1 S1 M1 =>
    if 0 ≤ w32 (x3 + 1) ∧ w32 (x3 + 1) < n0 then
      bndI (K m_Mo_deeds [vR 12 0 a2, vI (M1 a0 (w32 (x3 + 1)).toNat)] S1 M1) fun r2 S2 M2 =>
      if r1 = r2 then
        Run K tb_Law_law 2439 [vR 29 n0 a0, vR 11 0 a1, vR 12 0 a2, vI x3] [] S2 M2
      else
        some (some (vI 0), S2, M2)
    else none
  else none := (Run_EE K tb_Law_law lwCuts 500 1163 _ _ S M).trans rfl
set_option maxRecDepth 100000 in
theorem b_Law_1186 (K : Cal) (a0 : Nat) (n0 : Int) (a1 : Nat) (a2 : Nat) (x3 : Int) (S : Sp) (M : Mm) : Run K tb_Law_law 1186 [vR 29 n0 a0, vR 11 0 a1, vR 12 0 a2, vI x3] [] S M =
  if 0 ≤ w32 (x3 + 1) ∧ w32 (x3 + 1) < n0 then
    if 0 ≤ w32 (x3 + 2) ∧ w32 (x3 + 2) < n0 then
      bndI (K m_Ca_board [vR 11 0 a1, vI (M a0 (w32 (x3 + 1)).toNat), vI (M a0 (w32 (x3 + 2)).toNat)] S M) fun r1 S1 M1 =>
      if 0 ≤ w32 (x3 + 1) ∧ w32 (x3 + 1) < n0 then
        if 0 ≤ w32 (x3 + 2) ∧ w32 (x3 + 2) < n0 then
          bndI (K m_Mo_board [vR 12 0 a2, vI (M1 a0 (w32 (x3 + 1)).toNat), vI (M1 a0 (w32 (x3 + 2)).toNat)] S1 M1) fun r2 S2 M2 =>
          if r1 = r2 then
            Run K tb_Law_law 2439 [vR 29 n0 a0, vR 11 0 a1, vR 12 0 a2, vI x3] [] S2 M2
          else
            some (some (vI 0), S2, M2)
        else none
      else none
    else none
  else none := (Run_EE K tb_Law_law lwCuts 500 1186 _ _ S M).trans rfl
set_option maxRecDepth 100000 in
theorem b_Law_1219 (K : Cal) (a0 : Nat) (n0 : Int) (a1 : Nat) (a2 : Nat) (x3 : Int) (S : Sp) (M : Mm) : Run K tb_Law_law 1219 [vR 29 n0 a0, vR 11 0 a1, vR 12 0 a2, vI x3] [] S M =
  if 0 ≤ w32 (x3 + 1) ∧ w32 (x3 + 1) < n0 then
    bndI (K m_Ca_boarders [vR 11 0 a1, vI (M a0 (w32 (x3 + 1)).toNat)] S M) fun r1 S1 M1 =>
    if 0 ≤ w32 (x3 + 1) ∧ w32 (x3 + 1) < n0 then
      bndI (K m_Mo_boarders [vR 12 0 a2, vI (M1 a0 (w32 (x3 + 1)).toNat)] S1 M1) fun r2 S2 M2 =>
      if r1 = r2 then
        Run K tb_Law_law 2439 [vR 29 n0 a0, vR 11 0 a1, vR 12 0 a2, vI x3] [] S2 M2
      else
        some (some (vI 0), S2, M2)
    else none
  else none := (Run_EE K tb_Law_law lwCuts 500 1219 _ _ S M).trans rfl
set_option maxRecDepth 100000 in
theorem b_Law_1242 (K : Cal) (a0 : Nat) (n0 : Int) (a1 : Nat) (a2 : Nat) (x3 : Int) (S : Sp) (M : Mm) : Run K tb_Law_law 1242 [vR 29 n0 a0, vR 11 0 a1, vR 12 0 a2, vI x3] [] S M =
  if 0 ≤ w32 (x3 + 1) ∧ w32 (x3 + 1) < n0 then
    bndI (K m_Ca_greatest [vR 11 0 a1, vI (M a0 (w32 (x3 + 1)).toNat)] S M) fun r1 S1 M1 =>
    if 0 ≤ w32 (x3 + 1) ∧ w32 (x3 + 1) < n0 then
      bndI (K m_Mo_greatest [vR 12 0 a2, vI (M1 a0 (w32 (x3 + 1)).toNat)] S1 M1) fun r2 S2 M2 =>
      if r1 = r2 then
        Run K tb_Law_law 2439 [vR 29 n0 a0, vR 11 0 a1, vR 12 0 a2, vI x3] [] S2 M2
      else
        some (some (vI 0), S2, M2)
    else none
  else none := (Run_EE K tb_Law_law lwCuts 500 1242 _ _ S M).trans rfl
set_option maxRecDepth 100000 in
theorem b_Law_1265 (K : Cal) (a0 : Nat) (n0 : Int) (a1 : Nat) (a2 : Nat) (x3 : Int) (S : Sp) (M : Mm) : Run K tb_Law_law 1265 [vR 29 n0 a0, vR 11 0 a1, vR 12 0 a2, vI x3] [] S M =
  if 0 ≤ w32 (x3 + 1) ∧ w32 (x3 + 1) < n0 then
    if 0 ≤ w32 (x3 + 2) ∧ w32 (x3 + 2) < n0 then
      if 0 ≤ w32 (x3 + 3) ∧ w32 (x3 + 3) < n0 then
        bndI (K m_Ca_buy [vR 11 0 a1, vI (M a0 (w32 (x3 + 1)).toNat), vI (M a0 (w32 (x3 + 2)).toNat), vI (M a0 (w32 (x3 + 3)).toNat)] S M) fun r1 S1 M1 =>
        if 0 ≤ w32 (x3 + 1) ∧ w32 (x3 + 1) < n0 then
          if 0 ≤ w32 (x3 + 2) ∧ w32 (x3 + 2) < n0 then
            if 0 ≤ w32 (x3 + 3) ∧ w32 (x3 + 3) < n0 then
              bndI (K m_Mo_buy [vR 12 0 a2, vI (M1 a0 (w32 (x3 + 1)).toNat), vI (M1 a0 (w32 (x3 + 2)).toNat), vI (M1 a0 (w32 (x3 + 3)).toNat)] S1 M1) fun r2 S2 M2 =>
              if r1 = r2 then
                Run K tb_Law_law 2439 [vR 29 n0 a0, vR 11 0 a1, vR 12 0 a2, vI x3] [] S2 M2
              else
                some (some (vI 0), S2, M2)
            else none
          else none
        else none
      else none
    else none
  else none := (Run_EE K tb_Law_law lwCuts 500 1265 _ _ S M).trans rfl
set_option maxRecDepth 100000 in
theorem b_Law_1308 (K : Cal) (a0 : Nat) (n0 : Int) (a1 : Nat) (a2 : Nat) (x3 : Int) (S : Sp) (M : Mm) : Run K tb_Law_law 1308 [vR 29 n0 a0, vR 11 0 a1, vR 12 0 a2, vI x3] [] S M =
  if 0 ≤ w32 (x3 + 1) ∧ w32 (x3 + 1) < n0 then
    if 0 ≤ w32 (x3 + 2) ∧ w32 (x3 + 2) < n0 then
      if 0 ≤ w32 (x3 + 3) ∧ w32 (x3 + 3) < n0 then
        bndI (K m_Ca_sell [vR 11 0 a1, vI (M a0 (w32 (x3 + 1)).toNat), vI (M a0 (w32 (x3 + 2)).toNat), vI (M a0 (w32 (x3 + 3)).toNat)] S M) fun r1 S1 M1 =>
        if 0 ≤ w32 (x3 + 1) ∧ w32 (x3 + 1) < n0 then
          if 0 ≤ w32 (x3 + 2) ∧ w32 (x3 + 2) < n0 then
            if 0 ≤ w32 (x3 + 3) ∧ w32 (x3 + 3) < n0 then
              bndI (K m_Mo_sell [vR 12 0 a2, vI (M1 a0 (w32 (x3 + 1)).toNat), vI (M1 a0 (w32 (x3 + 2)).toNat), vI (M1 a0 (w32 (x3 + 3)).toNat)] S1 M1) fun r2 S2 M2 =>
              if r1 = r2 then
                Run K tb_Law_law 2439 [vR 29 n0 a0, vR 11 0 a1, vR 12 0 a2, vI x3] [] S2 M2
              else
                some (some (vI 0), S2, M2)
            else none
          else none
        else none
      else none
    else none
  else none := (Run_EE K tb_Law_law lwCuts 500 1308 _ _ S M).trans rfl
set_option maxRecDepth 100000 in
theorem b_Law_1351 (K : Cal) (a0 : Nat) (n0 : Int) (a1 : Nat) (a2 : Nat) (x3 : Int) (S : Sp) (M : Mm) : Run K tb_Law_law 1351 [vR 29 n0 a0, vR 11 0 a1, vR 12 0 a2, vI x3] [] S M =
  if 0 ≤ w32 (x3 + 1) ∧ w32 (x3 + 1) < n0 then
    if 0 ≤ w32 (x3 + 2) ∧ w32 (x3 + 2) < n0 then
      if 0 ≤ w32 (x3 + 3) ∧ w32 (x3 + 3) < n0 then
        bndI (K m_Ca_dump [vR 11 0 a1, vI (M a0 (w32 (x3 + 1)).toNat), vI (M a0 (w32 (x3 + 2)).toNat), vI (M a0 (w32 (x3 + 3)).toNat)] S M) fun r1 S1 M1 =>
        if 0 ≤ w32 (x3 + 1) ∧ w32 (x3 + 1) < n0 then
          if 0 ≤ w32 (x3 + 2) ∧ w32 (x3 + 2) < n0 then
            if 0 ≤ w32 (x3 + 3) ∧ w32 (x3 + 3) < n0 then
              bndI (K m_Mo_dump [vR 12 0 a2, vI (M1 a0 (w32 (x3 + 1)).toNat), vI (M1 a0 (w32 (x3 + 2)).toNat), vI (M1 a0 (w32 (x3 + 3)).toNat)] S1 M1) fun r2 S2 M2 =>
              if r1 = r2 then
                Run K tb_Law_law 2439 [vR 29 n0 a0, vR 11 0 a1, vR 12 0 a2, vI x3] [] S2 M2
              else
                some (some (vI 0), S2, M2)
            else none
          else none
        else none
      else none
    else none
  else none := (Run_EE K tb_Law_law lwCuts 500 1351 _ _ S M).trans rfl
set_option maxRecDepth 100000 in
theorem b_Law_1394 (K : Cal) (a0 : Nat) (n0 : Int) (a1 : Nat) (a2 : Nat) (x3 : Int) (S : Sp) (M : Mm) : Run K tb_Law_law 1394 [vR 29 n0 a0, vR 11 0 a1, vR 12 0 a2, vI x3] [] S M =
  if 0 ≤ w32 (x3 + 1) ∧ w32 (x3 + 1) < n0 then
    if 0 ≤ w32 (x3 + 2) ∧ w32 (x3 + 2) < n0 then
      bndI (K m_Ca_sail [vR 11 0 a1, vI (M a0 (w32 (x3 + 1)).toNat), vI (M a0 (w32 (x3 + 2)).toNat)] S M) fun r1 S1 M1 =>
      if 0 ≤ w32 (x3 + 1) ∧ w32 (x3 + 1) < n0 then
        if 0 ≤ w32 (x3 + 2) ∧ w32 (x3 + 2) < n0 then
          bndI (K m_Mo_sail [vR 12 0 a2, vI (M1 a0 (w32 (x3 + 1)).toNat), vI (M1 a0 (w32 (x3 + 2)).toNat)] S1 M1) fun r2 S2 M2 =>
          if r1 = r2 then
            Run K tb_Law_law 2439 [vR 29 n0 a0, vR 11 0 a1, vR 12 0 a2, vI x3] [] S2 M2
          else
            some (some (vI 0), S2, M2)
        else none
      else none
    else none
  else none := (Run_EE K tb_Law_law lwCuts 500 1394 _ _ S M).trans rfl
set_option maxRecDepth 100000 in
theorem b_Law_1427 (K : Cal) (a0 : Nat) (n0 : Int) (a1 : Nat) (a2 : Nat) (x3 : Int) (S : Sp) (M : Mm) : Run K tb_Law_law 1427 [vR 29 n0 a0, vR 11 0 a1, vR 12 0 a2, vI x3] [] S M =
  if 0 ≤ w32 (x3 + 1) ∧ w32 (x3 + 1) < n0 then
    bndI (K m_Ca_day [vR 11 0 a1, vI (M a0 (w32 (x3 + 1)).toNat)] S M) fun r1 S1 M1 =>
    if 0 ≤ w32 (x3 + 1) ∧ w32 (x3 + 1) < n0 then
      bndI (K m_Mo_day [vR 12 0 a2, vI (M1 a0 (w32 (x3 + 1)).toNat)] S1 M1) fun r2 S2 M2 =>
      if r1 = r2 then
        Run K tb_Law_law 2439 [vR 29 n0 a0, vR 11 0 a1, vR 12 0 a2, vI x3] [] S2 M2
      else
        some (some (vI 0), S2, M2)
    else none
  else none := (Run_EE K tb_Law_law lwCuts 500 1427 _ _ S M).trans rfl
set_option maxRecDepth 100000 in
theorem b_Law_1450 (K : Cal) (a0 : Nat) (n0 : Int) (a1 : Nat) (a2 : Nat) (x3 : Int) (S : Sp) (M : Mm) : Run K tb_Law_law 1450 [vR 29 n0 a0, vR 11 0 a1, vR 12 0 a2, vI x3] [] S M =
  if 0 ≤ w32 (x3 + 1) ∧ w32 (x3 + 1) < n0 then
    if 0 ≤ w32 (x3 + 2) ∧ w32 (x3 + 2) < n0 then
      if 0 ≤ w32 (x3 + 3) ∧ w32 (x3 + 3) < n0 then
        if 0 ≤ w32 (x3 + 4) ∧ w32 (x3 + 4) < n0 then
          bndI (K m_Ca_pass [vR 11 0 a1, vI (M a0 (w32 (x3 + 1)).toNat), vI (M a0 (w32 (x3 + 2)).toNat), vI (M a0 (w32 (x3 + 3)).toNat), vI (M a0 (w32 (x3 + 4)).toNat)] S M) fun r1 S1 M1 =>
          if 0 ≤ w32 (x3 + 1) ∧ w32 (x3 + 1) < n0 then
            if 0 ≤ w32 (x3 + 2) ∧ w32 (x3 + 2) < n0 then
              if 0 ≤ w32 (x3 + 3) ∧ w32 (x3 + 3) < n0 then
                if 0 ≤ w32 (x3 + 4) ∧ w32 (x3 + 4) < n0 then
                  bndI (K m_Mo_pass [vR 12 0 a2, vI (M1 a0 (w32 (x3 + 1)).toNat), vI (M1 a0 (w32 (x3 + 2)).toNat), vI (M1 a0 (w32 (x3 + 3)).toNat), vI (M1 a0 (w32 (x3 + 4)).toNat)] S1 M1) fun r2 S2 M2 =>
                  if r1 = r2 then
                    Run K tb_Law_law 2439 [vR 29 n0 a0, vR 11 0 a1, vR 12 0 a2, vI x3] [] S2 M2
                  else
                    some (some (vI 0), S2, M2)
                else none
              else none
            else none
          else none
        else none
      else none
    else none
  else none := (Run_EE K tb_Law_law lwCuts 500 1450 _ _ S M).trans rfl
set_option maxRecDepth 100000 in
theorem b_Law_1503 (K : Cal) (a0 : Nat) (n0 : Int) (a1 : Nat) (a2 : Nat) (x3 : Int) (S : Sp) (M : Mm) : Run K tb_Law_law 1503 [vR 29 n0 a0, vR 11 0 a1, vR 12 0 a2, vI x3] [] S M =
  if 0 ≤ w32 (x3 + 1) ∧ w32 (x3 + 1) < n0 then
    bndI (K m_Ca_rule [vR 11 0 a1, vI (M a0 (w32 (x3 + 1)).toNat)] S M) fun r1 S1 M1 =>
    if 0 ≤ w32 (x3 + 1) ∧ w32 (x3 + 1) < n0 then
      bndI (K m_Mo_rule [vR 12 0 a2, vI (M1 a0 (w32 (x3 + 1)).toNat)] S1 M1) fun r2 S2 M2 =>
      if r1 = r2 then
        Run K tb_Law_law 2439 [vR 29 n0 a0, vR 11 0 a1, vR 12 0 a2, vI x3] [] S2 M2
      else
        some (some (vI 0), S2, M2)
    else none
  else none := (Run_EE K tb_Law_law lwCuts 500 1503 _ _ S M).trans rfl
set_option maxRecDepth 100000 in
theorem b_Law_1526 (K : Cal) (a0 : Nat) (n0 : Int) (a1 : Nat) (a2 : Nat) (x3 : Int) (S : Sp) (M : Mm) : Run K tb_Law_law 1526 [vR 29 n0 a0, vR 11 0 a1, vR 12 0 a2, vI x3] [] S M =
  if 0 ≤ w32 (x3 + 1) ∧ w32 (x3 + 1) < n0 then
    if 0 ≤ w32 (x3 + 2) ∧ w32 (x3 + 2) < n0 then
      if 0 ≤ w32 (x3 + 3) ∧ w32 (x3 + 3) < n0 then
        if M a0 (w32 (x3 + 3)).toNat = 0 then
          bndI (K m_Ca_war [vR 11 0 a1, vI (M a0 (w32 (x3 + 1)).toNat), vI (M a0 (w32 (x3 + 2)).toNat), vI 0] S M) fun r1 S1 M1 =>
          if 0 ≤ w32 (x3 + 1) ∧ w32 (x3 + 1) < n0 then
            if 0 ≤ w32 (x3 + 2) ∧ w32 (x3 + 2) < n0 then
              if 0 ≤ w32 (x3 + 3) ∧ w32 (x3 + 3) < n0 then
                if M1 a0 (w32 (x3 + 3)).toNat = 0 then
                  bndI (K m_Mo_war [vR 12 0 a2, vI (M1 a0 (w32 (x3 + 1)).toNat), vI (M1 a0 (w32 (x3 + 2)).toNat), vI 0] S1 M1) fun r2 S2 M2 =>
                  if r1 = r2 then
                    Run K tb_Law_law 2439 [vR 29 n0 a0, vR 11 0 a1, vR 12 0 a2, vI x3] [] S2 M2
                  else
                    some (some (vI 0), S2, M2)
                else
                  bndI (K m_Mo_war [vR 12 0 a2, vI (M1 a0 (w32 (x3 + 1)).toNat), vI (M1 a0 (w32 (x3 + 2)).toNat), vI 1] S1 M1) fun r3 S3 M3 =>
                  if r1 = r3 then
                    Run K tb_Law_law 2439 [vR 29 n0 a0, vR 11 0 a1, vR 12 0 a2, vI x3] [] S3 M3
                  else
                    some (some (vI 0), S3, M3)
              else none
            else none
          else none
        else
          bndI (K m_Ca_war [vR 11 0 a1, vI (M a0 (w32 (x3 + 1)).toNat), vI (M a0 (w32 (x3 + 2)).toNat), vI 1] S M) fun r4 S4 M4 =>
          if 0 ≤ w32 (x3 + 1) ∧ w32 (x3 + 1) < n0 then
            if 0 ≤ w32 (x3 + 2) ∧ w32 (x3 + 2) < n0 then
              if 0 ≤ w32 (x3 + 3) ∧ w32 (x3 + 3) < n0 then
                if M4 a0 (w32 (x3 + 3)).toNat = 0 then
                  bndI (K m_Mo_war [vR 12 0 a2, vI (M4 a0 (w32 (x3 + 1)).toNat), vI (M4 a0 (w32 (x3 + 2)).toNat), vI 0] S4 M4) fun r5 S5 M5 =>
                  if r4 = r5 then
                    Run K tb_Law_law 2439 [vR 29 n0 a0, vR 11 0 a1, vR 12 0 a2, vI x3] [] S5 M5
                  else
                    some (some (vI 0), S5, M5)
                else
                  bndI (K m_Mo_war [vR 12 0 a2, vI (M4 a0 (w32 (x3 + 1)).toNat), vI (M4 a0 (w32 (x3 + 2)).toNat), vI 1] S4 M4) fun r6 S6 M6 =>
                  if r4 = r6 then
                    Run K tb_Law_law 2439 [vR 29 n0 a0, vR 11 0 a1, vR 12 0 a2, vI x3] [] S6 M6
                  else
                    some (some (vI 0), S6, M6)
              else none
            else none
          else none
      else none
    else none
  else none := (Run_EE K tb_Law_law lwCuts 500 1526 _ _ S M).trans rfl
set_option maxRecDepth 100000 in
theorem b_Law_1585 (K : Cal) (a0 : Nat) (n0 : Int) (a1 : Nat) (a2 : Nat) (x3 : Int) (S : Sp) (M : Mm) : Run K tb_Law_law 1585 [vR 29 n0 a0, vR 11 0 a1, vR 12 0 a2, vI x3] [] S M =
  if 0 ≤ w32 (x3 + 1) ∧ w32 (x3 + 1) < n0 then
    if 0 ≤ w32 (x3 + 2) ∧ w32 (x3 + 2) < n0 then
      if 0 ≤ w32 (x3 + 3) ∧ w32 (x3 + 3) < n0 then
        bndI (K m_Ca_trade [vR 11 0 a1, vI (M a0 (w32 (x3 + 1)).toNat), vI (M a0 (w32 (x3 + 2)).toNat), vI (M a0 (w32 (x3 + 3)).toNat)] S M) fun r1 S1 M1 =>
        if 0 ≤ w32 (x3 + 1) ∧ w32 (x3 + 1) < n0 then
          if 0 ≤ w32 (x3 + 2) ∧ w32 (x3 + 2) < n0 then
            if 0 ≤ w32 (x3 + 3) ∧ w32 (x3 + 3) < n0 then
              bndI (K m_Mo_trade [vR 12 0 a2, vI (M1 a0 (w32 (x3 + 1)).toNat), vI (M1 a0 (w32 (x3 + 2)).toNat), vI (M1 a0 (w32 (x3 + 3)).toNat)] S1 M1) fun r2 S2 M2 =>
              if r1 = r2 then
                Run K tb_Law_law 2439 [vR 29 n0 a0, vR 11 0 a1, vR 12 0 a2, vI x3] [] S2 M2
              else
                some (some (vI 0), S2, M2)
            else none
          else none
        else none
      else none
    else none
  else none := (Run_EE K tb_Law_law lwCuts 500 1585 _ _ S M).trans rfl
set_option maxRecDepth 100000 in
theorem b_Law_1628 (K : Cal) (a0 : Nat) (n0 : Int) (a1 : Nat) (a2 : Nat) (x3 : Int) (S : Sp) (M : Mm) : Run K tb_Law_law 1628 [vR 29 n0 a0, vR 11 0 a1, vR 12 0 a2, vI x3] [] S M =
  if 0 ≤ w32 (x3 + 1) ∧ w32 (x3 + 1) < n0 then
    if 0 ≤ w32 (x3 + 2) ∧ w32 (x3 + 2) < n0 then
      bndI (K m_Ca_pay [vR 11 0 a1, vI (M a0 (w32 (x3 + 1)).toNat), vI (M a0 (w32 (x3 + 2)).toNat)] S M) fun r1 S1 M1 =>
      if 0 ≤ w32 (x3 + 1) ∧ w32 (x3 + 1) < n0 then
        if 0 ≤ w32 (x3 + 2) ∧ w32 (x3 + 2) < n0 then
          bndI (K m_Mo_pay [vR 12 0 a2, vI (M1 a0 (w32 (x3 + 1)).toNat), vI (M1 a0 (w32 (x3 + 2)).toNat)] S1 M1) fun r2 S2 M2 =>
          if r1 = r2 then
            Run K tb_Law_law 2439 [vR 29 n0 a0, vR 11 0 a1, vR 12 0 a2, vI x3] [] S2 M2
          else
            some (some (vI 0), S2, M2)
        else none
      else none
    else none
  else none := (Run_EE K tb_Law_law lwCuts 500 1628 _ _ S M).trans rfl
set_option maxRecDepth 100000 in
theorem b_Law_1661 (K : Cal) (a0 : Nat) (n0 : Int) (a1 : Nat) (a2 : Nat) (x3 : Int) (S : Sp) (M : Mm) : Run K tb_Law_law 1661 [vR 29 n0 a0, vR 11 0 a1, vR 12 0 a2, vI x3] [] S M =
  if 0 ≤ w32 (x3 + 1) ∧ w32 (x3 + 1) < n0 then
    if 0 ≤ w32 (x3 + 2) ∧ w32 (x3 + 2) < n0 then
      bndI (K m_Ca_flagIn [vR 11 0 a1, vI (M a0 (w32 (x3 + 1)).toNat), vI (M a0 (w32 (x3 + 2)).toNat)] S M) fun r1 S1 M1 =>
      if 0 ≤ w32 (x3 + 1) ∧ w32 (x3 + 1) < n0 then
        if 0 ≤ w32 (x3 + 2) ∧ w32 (x3 + 2) < n0 then
          bndI (K m_Mo_flagIn [vR 12 0 a2, vI (M1 a0 (w32 (x3 + 1)).toNat), vI (M1 a0 (w32 (x3 + 2)).toNat)] S1 M1) fun r2 S2 M2 =>
          if r1 = r2 then
            Run K tb_Law_law 2439 [vR 29 n0 a0, vR 11 0 a1, vR 12 0 a2, vI x3] [] S2 M2
          else
            some (some (vI 0), S2, M2)
        else none
      else none
    else none
  else none := (Run_EE K tb_Law_law lwCuts 500 1661 _ _ S M).trans rfl
set_option maxRecDepth 100000 in
theorem b_Law_1694 (K : Cal) (a0 : Nat) (n0 : Int) (a1 : Nat) (a2 : Nat) (x3 : Int) (S : Sp) (M : Mm) : Run K tb_Law_law 1694 [vR 29 n0 a0, vR 11 0 a1, vR 12 0 a2, vI x3] [] S M =
  if 0 ≤ w32 (x3 + 1) ∧ w32 (x3 + 1) < n0 then
    if 0 ≤ w32 (x3 + 2) ∧ w32 (x3 + 2) < n0 then
      bndI (K m_Ca_tonsIn [vR 11 0 a1, vI (M a0 (w32 (x3 + 1)).toNat), vI (M a0 (w32 (x3 + 2)).toNat)] S M) fun r1 S1 M1 =>
      if 0 ≤ w32 (x3 + 1) ∧ w32 (x3 + 1) < n0 then
        if 0 ≤ w32 (x3 + 2) ∧ w32 (x3 + 2) < n0 then
          bndI (K m_Mo_tonsIn [vR 12 0 a2, vI (M1 a0 (w32 (x3 + 1)).toNat), vI (M1 a0 (w32 (x3 + 2)).toNat)] S1 M1) fun r2 S2 M2 =>
          if r1 = r2 then
            Run K tb_Law_law 2439 [vR 29 n0 a0, vR 11 0 a1, vR 12 0 a2, vI x3] [] S2 M2
          else
            some (some (vI 0), S2, M2)
        else none
      else none
    else none
  else none := (Run_EE K tb_Law_law lwCuts 500 1694 _ _ S M).trans rfl
set_option maxRecDepth 100000 in
theorem b_Law_1727 (K : Cal) (a0 : Nat) (n0 : Int) (a1 : Nat) (a2 : Nat) (x3 : Int) (S : Sp) (M : Mm) : Run K tb_Law_law 1727 [vR 29 n0 a0, vR 11 0 a1, vR 12 0 a2, vI x3] [] S M =
  if 0 ≤ w32 (x3 + 1) ∧ w32 (x3 + 1) < n0 then
    bndI (K m_Ca_turns [vR 11 0 a1, vI (M a0 (w32 (x3 + 1)).toNat)] S M) fun r1 S1 M1 =>
    if 0 ≤ w32 (x3 + 1) ∧ w32 (x3 + 1) < n0 then
      bndI (K m_Mo_turns [vR 12 0 a2, vI (M1 a0 (w32 (x3 + 1)).toNat)] S1 M1) fun r2 S2 M2 =>
      if r1 = r2 then
        Run K tb_Law_law 2439 [vR 29 n0 a0, vR 11 0 a1, vR 12 0 a2, vI x3] [] S2 M2
      else
        some (some (vI 0), S2, M2)
    else none
  else none := (Run_EE K tb_Law_law lwCuts 500 1727 _ _ S M).trans rfl
set_option maxRecDepth 100000 in
theorem b_Law_1750 (K : Cal) (a0 : Nat) (n0 : Int) (a1 : Nat) (a2 : Nat) (x3 : Int) (S : Sp) (M : Mm) : Run K tb_Law_law 1750 [vR 29 n0 a0, vR 11 0 a1, vR 12 0 a2, vI x3] [] S M =
  if 0 ≤ w32 (x3 + 1) ∧ w32 (x3 + 1) < n0 then
    if 0 ≤ w32 (x3 + 2) ∧ w32 (x3 + 2) < n0 then
      bndI (K m_Ca_flags [vR 11 0 a1, vI (M a0 (w32 (x3 + 1)).toNat), vI (M a0 (w32 (x3 + 2)).toNat)] S M) fun r1 S1 M1 =>
      if 0 ≤ w32 (x3 + 1) ∧ w32 (x3 + 1) < n0 then
        if 0 ≤ w32 (x3 + 2) ∧ w32 (x3 + 2) < n0 then
          bndI (K m_Mo_flags [vR 12 0 a2, vI (M1 a0 (w32 (x3 + 1)).toNat), vI (M1 a0 (w32 (x3 + 2)).toNat)] S1 M1) fun r2 S2 M2 =>
          if r1 = r2 then
            Run K tb_Law_law 2439 [vR 29 n0 a0, vR 11 0 a1, vR 12 0 a2, vI x3] [] S2 M2
          else
            some (some (vI 0), S2, M2)
        else none
      else none
    else none
  else none := (Run_EE K tb_Law_law lwCuts 500 1750 _ _ S M).trans rfl
set_option maxRecDepth 100000 in
theorem b_Law_1783 (K : Cal) (a0 : Nat) (n0 : Int) (a1 : Nat) (a2 : Nat) (x3 : Int) (S : Sp) (M : Mm) : Run K tb_Law_law 1783 [vR 29 n0 a0, vR 11 0 a1, vR 12 0 a2, vI x3] [] S M =
  if 0 ≤ w32 (x3 + 1) ∧ w32 (x3 + 1) < n0 then
    if 0 ≤ w32 (x3 + 2) ∧ w32 (x3 + 2) < n0 then
      bndI (K m_Ca_wages [vR 11 0 a1, vI (M a0 (w32 (x3 + 1)).toNat), vI (M a0 (w32 (x3 + 2)).toNat)] S M) fun r1 S1 M1 =>
      if 0 ≤ w32 (x3 + 1) ∧ w32 (x3 + 1) < n0 then
        if 0 ≤ w32 (x3 + 2) ∧ w32 (x3 + 2) < n0 then
          bndI (K m_Mo_wages [vR 12 0 a2, vI (M1 a0 (w32 (x3 + 1)).toNat), vI (M1 a0 (w32 (x3 + 2)).toNat)] S1 M1) fun r2 S2 M2 =>
          if r1 = r2 then
            Run K tb_Law_law 2439 [vR 29 n0 a0, vR 11 0 a1, vR 12 0 a2, vI x3] [] S2 M2
          else
            some (some (vI 0), S2, M2)
        else none
      else none
    else none
  else none := (Run_EE K tb_Law_law lwCuts 500 1783 _ _ S M).trans rfl
set_option maxRecDepth 100000 in
theorem b_Law_1816 (K : Cal) (a0 : Nat) (n0 : Int) (a1 : Nat) (a2 : Nat) (x3 : Int) (S : Sp) (M : Mm) : Run K tb_Law_law 1816 [vR 29 n0 a0, vR 11 0 a1, vR 12 0 a2, vI x3] [] S M =
  if 0 ≤ w32 (x3 + 1) ∧ w32 (x3 + 1) < n0 then
    bndI (K m_Ca_stowaway [vR 11 0 a1, vI (M a0 (w32 (x3 + 1)).toNat)] S M) fun r1 S1 M1 =>
    if 0 ≤ w32 (x3 + 1) ∧ w32 (x3 + 1) < n0 then
      bndI (K m_Mo_stowaway [vR 12 0 a2, vI (M1 a0 (w32 (x3 + 1)).toNat)] S1 M1) fun r2 S2 M2 =>
      if r1 = r2 then
        Run K tb_Law_law 2439 [vR 29 n0 a0, vR 11 0 a1, vR 12 0 a2, vI x3] [] S2 M2
      else
        some (some (vI 0), S2, M2)
    else none
  else none := (Run_EE K tb_Law_law lwCuts 500 1816 _ _ S M).trans rfl
set_option maxRecDepth 100000 in
theorem b_Law_1839 (K : Cal) (a0 : Nat) (n0 : Int) (a1 : Nat) (a2 : Nat) (x3 : Int) (S : Sp) (M : Mm) : Run K tb_Law_law 1839 [vR 29 n0 a0, vR 11 0 a1, vR 12 0 a2, vI x3] [] S M =
  if 0 ≤ w32 (x3 + 1) ∧ w32 (x3 + 1) < n0 then
    bndI (K m_Ca_stowawayGood [vR 11 0 a1, vI (M a0 (w32 (x3 + 1)).toNat)] S M) fun r1 S1 M1 =>
    if 0 ≤ w32 (x3 + 1) ∧ w32 (x3 + 1) < n0 then
      bndI (K m_Mo_stowawayGood [vR 12 0 a2, vI (M1 a0 (w32 (x3 + 1)).toNat)] S1 M1) fun r2 S2 M2 =>
      if r1 = r2 then
        Run K tb_Law_law 2439 [vR 29 n0 a0, vR 11 0 a1, vR 12 0 a2, vI x3] [] S2 M2
      else
        some (some (vI 0), S2, M2)
    else none
  else none := (Run_EE K tb_Law_law lwCuts 500 1839 _ _ S M).trans rfl
set_option maxRecDepth 100000 in
theorem b_Law_1862 (K : Cal) (a0 : Nat) (n0 : Int) (a1 : Nat) (a2 : Nat) (x3 : Int) (S : Sp) (M : Mm) : Run K tb_Law_law 1862 [vR 29 n0 a0, vR 11 0 a1, vR 12 0 a2, vI x3] [] S M =
  if 0 ≤ w32 (x3 + 1) ∧ w32 (x3 + 1) < n0 then
    if 0 ≤ w32 (x3 + 2) ∧ w32 (x3 + 2) < n0 then
      bndI (K m_Ca_guard [vR 11 0 a1, vI (M a0 (w32 (x3 + 1)).toNat), vI (M a0 (w32 (x3 + 2)).toNat)] S M) fun r1 S1 M1 =>
      if 0 ≤ w32 (x3 + 1) ∧ w32 (x3 + 1) < n0 then
        if 0 ≤ w32 (x3 + 2) ∧ w32 (x3 + 2) < n0 then
          bndI (K m_Mo_guard [vR 12 0 a2, vI (M1 a0 (w32 (x3 + 1)).toNat), vI (M1 a0 (w32 (x3 + 2)).toNat)] S1 M1) fun r2 S2 M2 =>
          if r1 = r2 then
            Run K tb_Law_law 2439 [vR 29 n0 a0, vR 11 0 a1, vR 12 0 a2, vI x3] [] S2 M2
          else
            some (some (vI 0), S2, M2)
        else none
      else none
    else none
  else none := (Run_EE K tb_Law_law lwCuts 500 1862 _ _ S M).trans rfl
set_option maxRecDepth 100000 in
theorem b_Law_1895 (K : Cal) (a0 : Nat) (n0 : Int) (a1 : Nat) (a2 : Nat) (x3 : Int) (S : Sp) (M : Mm) : Run K tb_Law_law 1895 [vR 29 n0 a0, vR 11 0 a1, vR 12 0 a2, vI x3] [] S M =
  if 0 ≤ w32 (x3 + 1) ∧ w32 (x3 + 1) < n0 then
    if 0 ≤ w32 (x3 + 2) ∧ w32 (x3 + 2) < n0 then
      bndI (K m_Ca_passFor [vR 11 0 a1, vI (M a0 (w32 (x3 + 1)).toNat), vI (M a0 (w32 (x3 + 2)).toNat)] S M) fun r1 S1 M1 =>
      if 0 ≤ w32 (x3 + 1) ∧ w32 (x3 + 1) < n0 then
        if 0 ≤ w32 (x3 + 2) ∧ w32 (x3 + 2) < n0 then
          bndI (K m_Mo_passFor [vR 12 0 a2, vI (M1 a0 (w32 (x3 + 1)).toNat), vI (M1 a0 (w32 (x3 + 2)).toNat)] S1 M1) fun r2 S2 M2 =>
          if r1 = r2 then
            Run K tb_Law_law 2439 [vR 29 n0 a0, vR 11 0 a1, vR 12 0 a2, vI x3] [] S2 M2
          else
            some (some (vI 0), S2, M2)
        else none
      else none
    else none
  else none := (Run_EE K tb_Law_law lwCuts 500 1895 _ _ S M).trans rfl
set_option maxRecDepth 100000 in
theorem b_Law_1928 (K : Cal) (a0 : Nat) (n0 : Int) (a1 : Nat) (a2 : Nat) (x3 : Int) (S : Sp) (M : Mm) : Run K tb_Law_law 1928 [vR 29 n0 a0, vR 11 0 a1, vR 12 0 a2, vI x3] [] S M =
  if 0 ≤ w32 (x3 + 1) ∧ w32 (x3 + 1) < n0 then
    if 0 ≤ w32 (x3 + 2) ∧ w32 (x3 + 2) < n0 then
      bndI (K m_Ca_passGood [vR 11 0 a1, vI (M a0 (w32 (x3 + 1)).toNat), vI (M a0 (w32 (x3 + 2)).toNat)] S M) fun r1 S1 M1 =>
      if 0 ≤ w32 (x3 + 1) ∧ w32 (x3 + 1) < n0 then
        if 0 ≤ w32 (x3 + 2) ∧ w32 (x3 + 2) < n0 then
          bndI (K m_Mo_passGood [vR 12 0 a2, vI (M1 a0 (w32 (x3 + 1)).toNat), vI (M1 a0 (w32 (x3 + 2)).toNat)] S1 M1) fun r2 S2 M2 =>
          if r1 = r2 then
            Run K tb_Law_law 2439 [vR 29 n0 a0, vR 11 0 a1, vR 12 0 a2, vI x3] [] S2 M2
          else
            some (some (vI 0), S2, M2)
        else none
      else none
    else none
  else none := (Run_EE K tb_Law_law lwCuts 500 1928 _ _ S M).trans rfl
set_option maxRecDepth 100000 in
theorem b_Law_1961 (K : Cal) (a0 : Nat) (n0 : Int) (a1 : Nat) (a2 : Nat) (x3 : Int) (S : Sp) (M : Mm) : Run K tb_Law_law 1961 [vR 29 n0 a0, vR 11 0 a1, vR 12 0 a2, vI x3] [] S M =
  if 0 ≤ w32 (x3 + 1) ∧ w32 (x3 + 1) < n0 then
    bndI (K m_Ca_peace [vR 11 0 a1, vI (M a0 (w32 (x3 + 1)).toNat)] S M) fun r1 S1 M1 =>
    if 0 ≤ w32 (x3 + 1) ∧ w32 (x3 + 1) < n0 then
      bndI (K m_Mo_peace [vR 12 0 a2, vI (M1 a0 (w32 (x3 + 1)).toNat)] S1 M1) fun r2 S2 M2 =>
      if r1 = r2 then
        Run K tb_Law_law 2439 [vR 29 n0 a0, vR 11 0 a1, vR 12 0 a2, vI x3] [] S2 M2
      else
        some (some (vI 0), S2, M2)
    else none
  else none := (Run_EE K tb_Law_law lwCuts 500 1961 _ _ S M).trans rfl
set_option maxRecDepth 100000 in
theorem b_Law_1984 (K : Cal) (a0 : Nat) (n0 : Int) (a1 : Nat) (a2 : Nat) (x3 : Int) (S : Sp) (M : Mm) : Run K tb_Law_law 1984 [vR 29 n0 a0, vR 11 0 a1, vR 12 0 a2, vI x3] [] S M =
  if 0 ≤ w32 (x3 + 1) ∧ w32 (x3 + 1) < n0 then
    bndI (K m_Ca_peaceCost [vR 11 0 a1, vI (M a0 (w32 (x3 + 1)).toNat)] S M) fun r1 S1 M1 =>
    if 0 ≤ w32 (x3 + 1) ∧ w32 (x3 + 1) < n0 then
      bndI (K m_Mo_peaceCost [vR 12 0 a2, vI (M1 a0 (w32 (x3 + 1)).toNat)] S1 M1) fun r2 S2 M2 =>
      if r1 = r2 then
        Run K tb_Law_law 2439 [vR 29 n0 a0, vR 11 0 a1, vR 12 0 a2, vI x3] [] S2 M2
      else
        some (some (vI 0), S2, M2)
    else none
  else none := (Run_EE K tb_Law_law lwCuts 500 1984 _ _ S M).trans rfl
set_option maxRecDepth 100000 in
theorem b_Law_2007 (K : Cal) (a0 : Nat) (n0 : Int) (a1 : Nat) (a2 : Nat) (x3 : Int) (S : Sp) (M : Mm) : Run K tb_Law_law 2007 [vR 29 n0 a0, vR 11 0 a1, vR 12 0 a2, vI x3] [] S M =
  if 0 ≤ w32 (x3 + 1) ∧ w32 (x3 + 1) < n0 then
    if 0 ≤ w32 (x3 + 2) ∧ w32 (x3 + 2) < n0 then
      bndI (K m_Ca_voyage [vR 11 0 a1, vI (M a0 (w32 (x3 + 1)).toNat), vI (M a0 (w32 (x3 + 2)).toNat)] S M) fun r1 S1 M1 =>
      if 0 ≤ w32 (x3 + 1) ∧ w32 (x3 + 1) < n0 then
        if 0 ≤ w32 (x3 + 2) ∧ w32 (x3 + 2) < n0 then
          bndI (K m_Mo_voyage [vR 12 0 a2, vI (M1 a0 (w32 (x3 + 1)).toNat), vI (M1 a0 (w32 (x3 + 2)).toNat)] S1 M1) fun r2 S2 M2 =>
          if r1 = r2 then
            Run K tb_Law_law 2439 [vR 29 n0 a0, vR 11 0 a1, vR 12 0 a2, vI x3] [] S2 M2
          else
            some (some (vI 0), S2, M2)
        else none
      else none
    else none
  else none := (Run_EE K tb_Law_law lwCuts 500 2007 _ _ S M).trans rfl
set_option maxRecDepth 100000 in
theorem b_Law_2040 (K : Cal) (a0 : Nat) (n0 : Int) (a1 : Nat) (a2 : Nat) (x3 : Int) (S : Sp) (M : Mm) : Run K tb_Law_law 2040 [vR 29 n0 a0, vR 11 0 a1, vR 12 0 a2, vI x3] [] S M =
  if 0 ≤ w32 (x3 + 1) ∧ w32 (x3 + 1) < n0 then
    if 0 ≤ w32 (x3 + 2) ∧ w32 (x3 + 2) < n0 then
      if 0 ≤ w32 (x3 + 3) ∧ w32 (x3 + 3) < n0 then
        bndI (K m_Ca_voyageAt [vR 11 0 a1, vI (M a0 (w32 (x3 + 1)).toNat), vI (M a0 (w32 (x3 + 2)).toNat), vI (M a0 (w32 (x3 + 3)).toNat)] S M) fun r1 S1 M1 =>
        if 0 ≤ w32 (x3 + 1) ∧ w32 (x3 + 1) < n0 then
          if 0 ≤ w32 (x3 + 2) ∧ w32 (x3 + 2) < n0 then
            if 0 ≤ w32 (x3 + 3) ∧ w32 (x3 + 3) < n0 then
              bndI (K m_Mo_voyageAt [vR 12 0 a2, vI (M1 a0 (w32 (x3 + 1)).toNat), vI (M1 a0 (w32 (x3 + 2)).toNat), vI (M1 a0 (w32 (x3 + 3)).toNat)] S1 M1) fun r2 S2 M2 =>
              if r1 = r2 then
                Run K tb_Law_law 2439 [vR 29 n0 a0, vR 11 0 a1, vR 12 0 a2, vI x3] [] S2 M2
              else
                some (some (vI 0), S2, M2)
            else none
          else none
        else none
      else none
    else none
  else none := (Run_EE K tb_Law_law lwCuts 500 2040 _ _ S M).trans rfl
set_option maxRecDepth 100000 in
theorem b_Law_2083 (K : Cal) (a0 : Nat) (n0 : Int) (a1 : Nat) (a2 : Nat) (x3 : Int) (S : Sp) (M : Mm) : Run K tb_Law_law 2083 [vR 29 n0 a0, vR 11 0 a1, vR 12 0 a2, vI x3] [] S M =
  if 0 ≤ w32 (x3 + 1) ∧ w32 (x3 + 1) < n0 then
    if 0 ≤ w32 (x3 + 2) ∧ w32 (x3 + 2) < n0 then
      bndI (K m_Ca_soonest [vR 11 0 a1, vI (M a0 (w32 (x3 + 1)).toNat), vI (M a0 (w32 (x3 + 2)).toNat)] S M) fun r1 S1 M1 =>
      if 0 ≤ w32 (x3 + 1) ∧ w32 (x3 + 1) < n0 then
        if 0 ≤ w32 (x3 + 2) ∧ w32 (x3 + 2) < n0 then
          bndI (K m_Mo_soonest [vR 12 0 a2, vI (M1 a0 (w32 (x3 + 1)).toNat), vI (M1 a0 (w32 (x3 + 2)).toNat)] S1 M1) fun r2 S2 M2 =>
          if r1 = r2 then
            Run K tb_Law_law 2439 [vR 29 n0 a0, vR 11 0 a1, vR 12 0 a2, vI x3] [] S2 M2
          else
            some (some (vI 0), S2, M2)
        else none
      else none
    else none
  else none := (Run_EE K tb_Law_law lwCuts 500 2083 _ _ S M).trans rfl
set_option maxRecDepth 100000 in
theorem b_Law_2116 (K : Cal) (a0 : Nat) (n0 : Int) (a1 : Nat) (a2 : Nat) (x3 : Int) (S : Sp) (M : Mm) : Run K tb_Law_law 2116 [vR 29 n0 a0, vR 11 0 a1, vR 12 0 a2, vI x3] [] S M =
  if 0 ≤ w32 (x3 + 1) ∧ w32 (x3 + 1) < n0 then
    if 0 ≤ w32 (x3 + 2) ∧ w32 (x3 + 2) < n0 then
      bndI (K m_Ca_next [vR 11 0 a1, vI (M a0 (w32 (x3 + 1)).toNat), vI (M a0 (w32 (x3 + 2)).toNat)] S M) fun r1 S1 M1 =>
      if 0 ≤ w32 (x3 + 1) ∧ w32 (x3 + 1) < n0 then
        if 0 ≤ w32 (x3 + 2) ∧ w32 (x3 + 2) < n0 then
          bndI (K m_Mo_next [vR 12 0 a2, vI (M1 a0 (w32 (x3 + 1)).toNat), vI (M1 a0 (w32 (x3 + 2)).toNat)] S1 M1) fun r2 S2 M2 =>
          if r1 = r2 then
            Run K tb_Law_law 2439 [vR 29 n0 a0, vR 11 0 a1, vR 12 0 a2, vI x3] [] S2 M2
          else
            some (some (vI 0), S2, M2)
        else none
      else none
    else none
  else none := (Run_EE K tb_Law_law lwCuts 500 2116 _ _ S M).trans rfl
set_option maxRecDepth 100000 in
theorem b_Law_2149 (K : Cal) (a0 : Nat) (n0 : Int) (a1 : Nat) (a2 : Nat) (x3 : Int) (S : Sp) (M : Mm) : Run K tb_Law_law 2149 [vR 29 n0 a0, vR 11 0 a1, vR 12 0 a2, vI x3] [] S M =
  if 0 ≤ w32 (x3 + 1) ∧ w32 (x3 + 1) < n0 then
    bndI (K m_Ca_reach [vR 11 0 a1, vI (M a0 (w32 (x3 + 1)).toNat)] S M) fun r1 S1 M1 =>
    if 0 ≤ w32 (x3 + 1) ∧ w32 (x3 + 1) < n0 then
      bndI (K m_Mo_reach [vR 12 0 a2, vI (M1 a0 (w32 (x3 + 1)).toNat)] S1 M1) fun r2 S2 M2 =>
      if r1 = r2 then
        Run K tb_Law_law 2439 [vR 29 n0 a0, vR 11 0 a1, vR 12 0 a2, vI x3] [] S2 M2
      else
        some (some (vI 0), S2, M2)
    else none
  else none := (Run_EE K tb_Law_law lwCuts 500 2149 _ _ S M).trans rfl
set_option maxRecDepth 100000 in
theorem b_Law_2172 (K : Cal) (a0 : Nat) (n0 : Int) (a1 : Nat) (a2 : Nat) (x3 : Int) (S : Sp) (M : Mm) : Run K tb_Law_law 2172 [vR 29 n0 a0, vR 11 0 a1, vR 12 0 a2, vI x3] [] S M =
  if 0 ≤ w32 (x3 + 1) ∧ w32 (x3 + 1) < n0 then
    if 0 ≤ w32 (x3 + 2) ∧ w32 (x3 + 2) < n0 then
      bndI (K m_Ca_best [vR 11 0 a1, vI (M a0 (w32 (x3 + 1)).toNat), vI (M a0 (w32 (x3 + 2)).toNat)] S M) fun r1 S1 M1 =>
      if 0 ≤ w32 (x3 + 1) ∧ w32 (x3 + 1) < n0 then
        if 0 ≤ w32 (x3 + 2) ∧ w32 (x3 + 2) < n0 then
          bndI (K m_Mo_best [vR 12 0 a2, vI (M1 a0 (w32 (x3 + 1)).toNat), vI (M1 a0 (w32 (x3 + 2)).toNat)] S1 M1) fun r2 S2 M2 =>
          if r1 = r2 then
            Run K tb_Law_law 2439 [vR 29 n0 a0, vR 11 0 a1, vR 12 0 a2, vI x3] [] S2 M2
          else
            some (some (vI 0), S2, M2)
        else none
      else none
    else none
  else none := (Run_EE K tb_Law_law lwCuts 500 2172 _ _ S M).trans rfl
set_option maxRecDepth 100000 in
theorem b_Law_2205 (K : Cal) (a0 : Nat) (n0 : Int) (a1 : Nat) (a2 : Nat) (x3 : Int) (S : Sp) (M : Mm) : Run K tb_Law_law 2205 [vR 29 n0 a0, vR 11 0 a1, vR 12 0 a2, vI x3] [] S M =
  if 0 ≤ w32 (x3 + 1) ∧ w32 (x3 + 1) < n0 then
    if 0 ≤ w32 (x3 + 2) ∧ w32 (x3 + 2) < n0 then
      if 0 ≤ w32 (x3 + 3) ∧ w32 (x3 + 3) < n0 then
        bndI (K m_Ca_log [vR 11 0 a1, vI (M a0 (w32 (x3 + 1)).toNat), vI (M a0 (w32 (x3 + 2)).toNat), vI (M a0 (w32 (x3 + 3)).toNat)] S M) fun r1 S1 M1 =>
        if 0 ≤ w32 (x3 + 1) ∧ w32 (x3 + 1) < n0 then
          if 0 ≤ w32 (x3 + 2) ∧ w32 (x3 + 2) < n0 then
            if 0 ≤ w32 (x3 + 3) ∧ w32 (x3 + 3) < n0 then
              bndI (K m_Mo_log [vR 12 0 a2, vI (M1 a0 (w32 (x3 + 1)).toNat), vI (M1 a0 (w32 (x3 + 2)).toNat), vI (M1 a0 (w32 (x3 + 3)).toNat)] S1 M1) fun r2 S2 M2 =>
              if r1 = r2 then
                Run K tb_Law_law 2439 [vR 29 n0 a0, vR 11 0 a1, vR 12 0 a2, vI x3] [] S2 M2
              else
                some (some (vI 0), S2, M2)
            else none
          else none
        else none
      else none
    else none
  else none := (Run_EE K tb_Law_law lwCuts 500 2205 _ _ S M).trans rfl
set_option maxRecDepth 100000 in
theorem b_Law_2248 (K : Cal) (a0 : Nat) (n0 : Int) (a1 : Nat) (a2 : Nat) (x3 : Int) (S : Sp) (M : Mm) : Run K tb_Law_law 2248 [vR 29 n0 a0, vR 11 0 a1, vR 12 0 a2, vI x3] [] S M =
  if 0 ≤ w32 (x3 + 1) ∧ w32 (x3 + 1) < n0 then
    if 0 ≤ w32 (x3 + 2) ∧ w32 (x3 + 2) < n0 then
      if 0 ≤ w32 (x3 + 3) ∧ w32 (x3 + 3) < n0 then
        bndI (K m_Ca_sure [vR 11 0 a1, vI (M a0 (w32 (x3 + 1)).toNat), vI (M a0 (w32 (x3 + 2)).toNat), vI (M a0 (w32 (x3 + 3)).toNat)] S M) fun r1 S1 M1 =>
        if 0 ≤ w32 (x3 + 1) ∧ w32 (x3 + 1) < n0 then
          if 0 ≤ w32 (x3 + 2) ∧ w32 (x3 + 2) < n0 then
            if 0 ≤ w32 (x3 + 3) ∧ w32 (x3 + 3) < n0 then
              bndI (K m_Mo_sure [vR 12 0 a2, vI (M1 a0 (w32 (x3 + 1)).toNat), vI (M1 a0 (w32 (x3 + 2)).toNat), vI (M1 a0 (w32 (x3 + 3)).toNat)] S1 M1) fun r2 S2 M2 =>
              if r1 = r2 then
                Run K tb_Law_law 2439 [vR 29 n0 a0, vR 11 0 a1, vR 12 0 a2, vI x3] [] S2 M2
              else
                some (some (vI 0), S2, M2)
            else none
          else none
        else none
      else none
    else none
  else none := (Run_EE K tb_Law_law lwCuts 500 2248 _ _ S M).trans rfl
set_option maxRecDepth 100000 in
theorem b_Law_2291 (K : Cal) (a0 : Nat) (n0 : Int) (a1 : Nat) (a2 : Nat) (x3 : Int) (S : Sp) (M : Mm) : Run K tb_Law_law 2291 [vR 29 n0 a0, vR 11 0 a1, vR 12 0 a2, vI x3] [] S M =
  if 0 ≤ w32 (x3 + 1) ∧ w32 (x3 + 1) < n0 then
    if 0 ≤ w32 (x3 + 2) ∧ w32 (x3 + 2) < n0 then
      if 0 ≤ w32 (x3 + 3) ∧ w32 (x3 + 3) < n0 then
        bndI (K m_Ca_copyLog [vR 11 0 a1, vI (M a0 (w32 (x3 + 1)).toNat), vI (M a0 (w32 (x3 + 2)).toNat), vI (M a0 (w32 (x3 + 3)).toNat)] S M) fun r1 S1 M1 =>
        if 0 ≤ w32 (x3 + 1) ∧ w32 (x3 + 1) < n0 then
          if 0 ≤ w32 (x3 + 2) ∧ w32 (x3 + 2) < n0 then
            if 0 ≤ w32 (x3 + 3) ∧ w32 (x3 + 3) < n0 then
              bndI (K m_Mo_copyLog [vR 12 0 a2, vI (M1 a0 (w32 (x3 + 1)).toNat), vI (M1 a0 (w32 (x3 + 2)).toNat), vI (M1 a0 (w32 (x3 + 3)).toNat)] S1 M1) fun r2 S2 M2 =>
              if r1 = r2 then
                Run K tb_Law_law 2439 [vR 29 n0 a0, vR 11 0 a1, vR 12 0 a2, vI x3] [] S2 M2
              else
                some (some (vI 0), S2, M2)
            else none
          else none
        else none
      else none
    else none
  else none := (Run_EE K tb_Law_law lwCuts 500 2291 _ _ S M).trans rfl
set_option maxRecDepth 100000 in
theorem b_Law_2334 (K : Cal) (a0 : Nat) (n0 : Int) (a1 : Nat) (a2 : Nat) (x3 : Int) (S : Sp) (M : Mm) : Run K tb_Law_law 2334 [vR 29 n0 a0, vR 11 0 a1, vR 12 0 a2, vI x3] [] S M =
  if 0 ≤ w32 (x3 + 1) ∧ w32 (x3 + 1) < n0 then
    bndI (K m_Ca_live [vR 11 0 a1, vI (M a0 (w32 (x3 + 1)).toNat)] S M) fun r1 S1 M1 =>
    if 0 ≤ w32 (x3 + 1) ∧ w32 (x3 + 1) < n0 then
      bndI (K m_Mo_live [vR 12 0 a2, vI (M1 a0 (w32 (x3 + 1)).toNat)] S1 M1) fun r2 S2 M2 =>
      if r1 = r2 then
        Run K tb_Law_law 2439 [vR 29 n0 a0, vR 11 0 a1, vR 12 0 a2, vI x3] [] S2 M2
      else
        some (some (vI 0), S2, M2)
    else none
  else none := (Run_EE K tb_Law_law lwCuts 500 2334 _ _ S M).trans rfl
set_option maxRecDepth 100000 in
theorem b_Law_2357 (K : Cal) (a0 : Nat) (n0 : Int) (a1 : Nat) (a2 : Nat) (x3 : Int) (S : Sp) (M : Mm) : Run K tb_Law_law 2357 [vR 29 n0 a0, vR 11 0 a1, vR 12 0 a2, vI x3] [] S M =
  if 0 ≤ w32 (x3 + 1) ∧ w32 (x3 + 1) < n0 then
    bndI (K m_Ca_lived [vR 11 0 a1, vI (M a0 (w32 (x3 + 1)).toNat)] S M) fun r1 S1 M1 =>
    if 0 ≤ w32 (x3 + 1) ∧ w32 (x3 + 1) < n0 then
      bndI (K m_Mo_lived [vR 12 0 a2, vI (M1 a0 (w32 (x3 + 1)).toNat)] S1 M1) fun r2 S2 M2 =>
      if r1 = r2 then
        Run K tb_Law_law 2439 [vR 29 n0 a0, vR 11 0 a1, vR 12 0 a2, vI x3] [] S2 M2
      else
        some (some (vI 0), S2, M2)
    else none
  else none := (Run_EE K tb_Law_law lwCuts 500 2357 _ _ S M).trans rfl
set_option maxRecDepth 100000 in
theorem b_Law_2380 (K : Cal) (a0 : Nat) (n0 : Int) (a1 : Nat) (a2 : Nat) (x3 : Int) (S : Sp) (M : Mm) : Run K tb_Law_law 2380 [vR 29 n0 a0, vR 11 0 a1, vR 12 0 a2, vI x3] [] S M =
  if 0 ≤ w32 (x3 + 1) ∧ w32 (x3 + 1) < n0 then
    if 0 ≤ w32 (x3 + 2) ∧ w32 (x3 + 2) < n0 then
      bndI (K m_Ca_mean [vR 11 0 a1, vI (M a0 (w32 (x3 + 1)).toNat), vI (M a0 (w32 (x3 + 2)).toNat)] S M) fun r1 S1 M1 =>
      if 0 ≤ w32 (x3 + 1) ∧ w32 (x3 + 1) < n0 then
        if 0 ≤ w32 (x3 + 2) ∧ w32 (x3 + 2) < n0 then
          bndI (K m_Mo_mean [vR 12 0 a2, vI (M1 a0 (w32 (x3 + 1)).toNat), vI (M1 a0 (w32 (x3 + 2)).toNat)] S1 M1) fun r2 S2 M2 =>
          if r1 = r2 then
            Run K tb_Law_law 2439 [vR 29 n0 a0, vR 11 0 a1, vR 12 0 a2, vI x3] [] S2 M2
          else
            some (some (vI 0), S2, M2)
        else none
      else none
    else none
  else none := (Run_EE K tb_Law_law lwCuts 500 2380 _ _ S M).trans rfl
set_option maxRecDepth 100000 in
theorem b_Law_2413 (K : Cal) (a0 : Nat) (n0 : Int) (a1 : Nat) (a2 : Nat) (x3 : Int) (S : Sp) (M : Mm) : Run K tb_Law_law 2413 [vR 29 n0 a0, vR 11 0 a1, vR 12 0 a2, vI x3] [] S M =
  bndI (K m_Ca_mark [vR 11 0 a1] S M) fun r1 S1 M1 =>
  bndI (K m_Mo_mark [vR 12 0 a2] S1 M1) fun r2 S2 M2 =>
  if r1 = r2 then
    Run K tb_Law_law 2439 [vR 29 n0 a0, vR 11 0 a1, vR 12 0 a2, vI x3] [] S2 M2
  else
    some (some (vI 0), S2, M2) := (Run_EE K tb_Law_law lwCuts 500 2413 _ _ S M).trans rfl
set_option maxRecDepth 100000 in
theorem b_Law_2426 (K : Cal) (a0 : Nat) (n0 : Int) (a1 : Nat) (a2 : Nat) (x3 : Int) (S : Sp) (M : Mm) : Run K tb_Law_law 2426 [vR 29 n0 a0, vR 11 0 a1, vR 12 0 a2, vI x3] [] S M =
  bndI (K m_Ca_undo [vR 11 0 a1] S M) fun r1 S1 M1 =>
  bndI (K m_Mo_undo [vR 12 0 a2] S1 M1) fun r2 S2 M2 =>
  if r1 = r2 then
    Run K tb_Law_law 2439 [vR 29 n0 a0, vR 11 0 a1, vR 12 0 a2, vI x3] [] S2 M2
  else
    some (some (vI 0), S2, M2) := (Run_EE K tb_Law_law lwCuts 500 2426 _ _ S M).trans rfl
set_option maxRecDepth 100000 in
theorem b_Law_2439 (K : Cal) (a0 : Nat) (n0 : Int) (a1 : Nat) (a2 : Nat) (x3 : Int) (S : Sp) (M : Mm) : Run K tb_Law_law 2439 [vR 29 n0 a0, vR 11 0 a1, vR 12 0 a2, vI x3] [] S M =
  Run K tb_Law_law 18 [vR 29 n0 a0, vR 11 0 a1, vR 12 0 a2, vI (w32 (x3 + 6))] [] S M := (Run_EE K tb_Law_law lwCuts 500 2439 _ _ S M).trans rfl

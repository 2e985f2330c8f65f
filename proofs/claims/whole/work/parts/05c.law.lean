theorem okLawE : okE "CargoFlagLaw" false [] maxLocals ret tb_Law_law = true := by decide +kernel
noncomputable def okLD (i : Nat) : Bool := (nthC tb_Law_law i).all fun e => decide (decode code e.1 = .ok e.2.1)
theorem okLD_0 : (List.range' 0 8).all okLD = true := by decide +kernel
theorem okLD_1 : (List.range' 8 8).all okLD = true := by decide +kernel
theorem okLD_2 : (List.range' 16 8).all okLD = true := by decide +kernel
theorem okLD_3 : (List.range' 24 8).all okLD = true := by decide +kernel
theorem okLD_4 : (List.range' 32 8).all okLD = true := by decide +kernel
theorem okLD_5 : (List.range' 40 8).all okLD = true := by decide +kernel
theorem okLD_6 : (List.range' 48 8).all okLD = true := by decide +kernel
theorem okLD_7 : (List.range' 56 8).all okLD = true := by decide +kernel
theorem okLD_8 : (List.range' 64 8).all okLD = true := by decide +kernel
theorem okLD_9 : (List.range' 72 8).all okLD = true := by decide +kernel
theorem okLD_10 : (List.range' 80 8).all okLD = true := by decide +kernel
theorem okLD_11 : (List.range' 88 8).all okLD = true := by decide +kernel
theorem okLD_12 : (List.range' 96 8).all okLD = true := by decide +kernel
theorem okLD_13 : (List.range' 104 8).all okLD = true := by decide +kernel
theorem okLD_14 : (List.range' 112 8).all okLD = true := by decide +kernel
theorem okLD_15 : (List.range' 120 8).all okLD = true := by decide +kernel
theorem okLD_16 : (List.range' 128 8).all okLD = true := by decide +kernel
theorem okLD_17 : (List.range' 136 8).all okLD = true := by decide +kernel
theorem okLD_18 : (List.range' 144 8).all okLD = true := by decide +kernel
theorem okLD_19 : (List.range' 152 1).all okLD = true := by decide +kernel
theorem okLD_all (y : Nat) (h : y < 153) : okLD y = true := by
  have k : ∀ a n, (List.range' a n).all okLD = true → a ≤ y → y < a + n → okLD y = true := fun a n h h1 h2 => List.all_eq_true.mp h y (by rw [List.mem_range'_1]; omega)
  rcases Nat.lt_or_ge y 8 with h0 | h0
  · exact k 0 8 okLD_0 (by omega) (by omega)
  rcases Nat.lt_or_ge y 16 with h8 | h8
  · exact k 8 8 okLD_1 (by omega) (by omega)
  rcases Nat.lt_or_ge y 24 with h16 | h16
  · exact k 16 8 okLD_2 (by omega) (by omega)
  rcases Nat.lt_or_ge y 32 with h24 | h24
  · exact k 24 8 okLD_3 (by omega) (by omega)
  rcases Nat.lt_or_ge y 40 with h32 | h32
  · exact k 32 8 okLD_4 (by omega) (by omega)
  rcases Nat.lt_or_ge y 48 with h40 | h40
  · exact k 40 8 okLD_5 (by omega) (by omega)
  rcases Nat.lt_or_ge y 56 with h48 | h48
  · exact k 48 8 okLD_6 (by omega) (by omega)
  rcases Nat.lt_or_ge y 64 with h56 | h56
  · exact k 56 8 okLD_7 (by omega) (by omega)
  rcases Nat.lt_or_ge y 72 with h64 | h64
  · exact k 64 8 okLD_8 (by omega) (by omega)
  rcases Nat.lt_or_ge y 80 with h72 | h72
  · exact k 72 8 okLD_9 (by omega) (by omega)
  rcases Nat.lt_or_ge y 88 with h80 | h80
  · exact k 80 8 okLD_10 (by omega) (by omega)
  rcases Nat.lt_or_ge y 96 with h88 | h88
  · exact k 88 8 okLD_11 (by omega) (by omega)
  rcases Nat.lt_or_ge y 104 with h96 | h96
  · exact k 96 8 okLD_12 (by omega) (by omega)
  rcases Nat.lt_or_ge y 112 with h104 | h104
  · exact k 104 8 okLD_13 (by omega) (by omega)
  rcases Nat.lt_or_ge y 120 with h112 | h112
  · exact k 112 8 okLD_14 (by omega) (by omega)
  rcases Nat.lt_or_ge y 128 with h120 | h120
  · exact k 120 8 okLD_15 (by omega) (by omega)
  rcases Nat.lt_or_ge y 136 with h128 | h128
  · exact k 128 8 okLD_16 (by omega) (by omega)
  rcases Nat.lt_or_ge y 144 with h136 | h136
  · exact k 136 8 okLD_17 (by omega) (by omega)
  rcases Nat.lt_or_ge y 152 with h144 | h144
  · exact k 144 8 okLD_18 (by omega) (by omega)
  exact k 152 1 okLD_19 (by omega) (by omega)

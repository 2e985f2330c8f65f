theorem okZ_0 : (List.range' 0 20).all okZ = true := by decide +kernel
theorem okZ_1 : (List.range' 20 20).all okZ = true := by decide +kernel
theorem okZ_2 : (List.range' 40 20).all okZ = true := by decide +kernel
theorem okZ_3 : (List.range' 60 20).all okZ = true := by decide +kernel
theorem okZ_4 : (List.range' 80 20).all okZ = true := by decide +kernel
theorem okZ_5 : (List.range' 100 20).all okZ = true := by decide +kernel
theorem okZ_6 : (List.range' 120 20).all okZ = true := by decide +kernel
theorem okZ_7 : (List.range' 140 20).all okZ = true := by decide +kernel
theorem okZ_8 : (List.range' 160 20).all okZ = true := by decide +kernel
theorem okZ_9 : (List.range' 180 20).all okZ = true := by decide +kernel
theorem okZ_10 : (List.range' 200 20).all okZ = true := by decide +kernel
theorem okZ_11 : (List.range' 220 20).all okZ = true := by decide +kernel
theorem okZ_12 : (List.range' 240 20).all okZ = true := by decide +kernel
theorem okZ_13 : (List.range' 260 20).all okZ = true := by decide +kernel
theorem okZ_14 : (List.range' 280 20).all okZ = true := by decide +kernel
theorem okZ_15 : (List.range' 300 20).all okZ = true := by decide +kernel
theorem okZ_16 : (List.range' 320 20).all okZ = true := by decide +kernel
theorem okZ_17 : (List.range' 340 20).all okZ = true := by decide +kernel
theorem okZ_18 : (List.range' 360 20).all okZ = true := by decide +kernel
theorem okZ_19 : (List.range' 380 20).all okZ = true := by decide +kernel
theorem okZ_20 : (List.range' 400 4).all okZ = true := by decide +kernel
theorem okZ_all (y : Nat) (h : y < 404) : okZ y = true := by
  have k : ∀ a n, (List.range' a n).all okZ = true → a ≤ y → y < a + n → okZ y = true := fun a n h h1 h2 => List.all_eq_true.mp h y (by rw [List.mem_range'_1]; omega)
  rcases Nat.lt_or_ge y 20 with h0 | h0
  · exact k 0 20 okZ_0 (by omega) (by omega)
  rcases Nat.lt_or_ge y 40 with h1 | h1
  · exact k 20 20 okZ_1 (by omega) (by omega)
  rcases Nat.lt_or_ge y 60 with h2 | h2
  · exact k 40 20 okZ_2 (by omega) (by omega)
  rcases Nat.lt_or_ge y 80 with h3 | h3
  · exact k 60 20 okZ_3 (by omega) (by omega)
  rcases Nat.lt_or_ge y 100 with h4 | h4
  · exact k 80 20 okZ_4 (by omega) (by omega)
  rcases Nat.lt_or_ge y 120 with h5 | h5
  · exact k 100 20 okZ_5 (by omega) (by omega)
  rcases Nat.lt_or_ge y 140 with h6 | h6
  · exact k 120 20 okZ_6 (by omega) (by omega)
  rcases Nat.lt_or_ge y 160 with h7 | h7
  · exact k 140 20 okZ_7 (by omega) (by omega)
  rcases Nat.lt_or_ge y 180 with h8 | h8
  · exact k 160 20 okZ_8 (by omega) (by omega)
  rcases Nat.lt_or_ge y 200 with h9 | h9
  · exact k 180 20 okZ_9 (by omega) (by omega)
  rcases Nat.lt_or_ge y 220 with h10 | h10
  · exact k 200 20 okZ_10 (by omega) (by omega)
  rcases Nat.lt_or_ge y 240 with h11 | h11
  · exact k 220 20 okZ_11 (by omega) (by omega)
  rcases Nat.lt_or_ge y 260 with h12 | h12
  · exact k 240 20 okZ_12 (by omega) (by omega)
  rcases Nat.lt_or_ge y 280 with h13 | h13
  · exact k 260 20 okZ_13 (by omega) (by omega)
  rcases Nat.lt_or_ge y 300 with h14 | h14
  · exact k 280 20 okZ_14 (by omega) (by omega)
  rcases Nat.lt_or_ge y 320 with h15 | h15
  · exact k 300 20 okZ_15 (by omega) (by omega)
  rcases Nat.lt_or_ge y 340 with h16 | h16
  · exact k 320 20 okZ_16 (by omega) (by omega)
  rcases Nat.lt_or_ge y 360 with h17 | h17
  · exact k 340 20 okZ_17 (by omega) (by omega)
  rcases Nat.lt_or_ge y 380 with h18 | h18
  · exact k 360 20 okZ_18 (by omega) (by omega)
  rcases Nat.lt_or_ge y 400 with h19 | h19
  · exact k 380 20 okZ_19 (by omega) (by omega)
  exact k 400 4 okZ_20 (by omega) (by omega)

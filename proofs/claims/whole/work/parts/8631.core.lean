/-! THE SHAPE BEHIND THE CONSTRUCTORS, AND RULES OF RECKONING -/
def SH (L : Nat) : Sp := [(29, L, []),
  (13, 0, []),
  (13, 1, []),
  (11, 0, [some 4, some 12, some 15, some 16, some 18, some 65, some 112, some 113, some 116, some 126, some 129, none, none, none, none, none, none, none]),
  (7, 0, [some 5, some 10, some 11]),
  (25, 4, [some 6, some 7, some 8, some 9]),
  (21, 60, []),
  (21, 60, []),
  (21, 60, []),
  (21, 60, []),
  (20, 4, []),
  (20, 4, []),
  (6, 0, [some 13, some 14, none, none, none, none, none, none, none, none, none, none, none]),
  (22, 900, []),
  (21, 31, []),
  (10, 0, [none]),
  (9, 0, [some 17, none]),
  (20, 3, []),
  (5, 0, [some 19, some 50, some 51, none]),
  (0, 0, [some 20, some 21, some 26, some 27, some 28, some 29, some 30, some 31, some 32, some 33, some 34, some 41, none, some 48, some 49]),
  (20, 4, []),
  (26, 4, [some 22, some 23, some 24, some 25]),
  (21, 8, []),
  (21, 8, []),
  (21, 8, []),
  (21, 8, []),
  (20, 6, []),
  (20, 6, []),
  (20, 6, []),
  (20, 6, []),
  (20, 8, []),
  (20, 8, []),
  (20, 8, []),
  (20, 6, []),
  (27, 6, [some 35, some 36, some 37, some 38, some 39, some 40]),
  (20, 8, []),
  (20, 8, []),
  (20, 8, []),
  (20, 8, []),
  (20, 8, []),
  (20, 8, []),
  (28, 6, [some 42, some 43, some 44, some 45, some 46, some 47]),
  (20, 6, []),
  (20, 6, []),
  (20, 6, []),
  (20, 6, []),
  (20, 6, []),
  (20, 6, []),
  (20, 6, []),
  (20, 6, []),
  (24, 4, [some 57, some 59, some 61, some 63]),
  (3, 0, [some 52, some 53, some 54, some 55, some 56, none, none, none]),
  (20, 60, []),
  (20, 60, []),
  (20, 60, []),
  (20, 60, []),
  (20, 60, []),
  (8, 0, [none, none, none, none, none, none, none, some 58]),
  (20, 8, []),
  (8, 0, [none, none, none, none, none, none, none, some 60]),
  (20, 8, []),
  (8, 0, [none, none, none, none, none, none, none, some 62]),
  (20, 8, []),
  (8, 0, [none, none, none, none, none, none, none, some 64]),
  (20, 8, []),
  (5, 0, [some 66, some 97, some 98, none]),
  (0, 0, [some 67, some 68, some 73, some 74, some 75, some 76, some 77, some 78, some 79, some 80, some 81, some 88, none, some 95, some 96]),
  (20, 4, []),
  (26, 4, [some 69, some 70, some 71, some 72]),
  (21, 8, []),
  (21, 8, []),
  (21, 8, []),
  (21, 8, []),
  (20, 6, []),
  (20, 6, []),
  (20, 6, []),
  (20, 6, []),
  (20, 8, []),
  (20, 8, []),
  (20, 8, []),
  (20, 6, []),
  (27, 6, [some 82, some 83, some 84, some 85, some 86, some 87]),
  (20, 8, []),
  (20, 8, []),
  (20, 8, []),
  (20, 8, []),
  (20, 8, []),
  (20, 8, []),
  (28, 6, [some 89, some 90, some 91, some 92, some 93, some 94]),
  (20, 6, []),
  (20, 6, []),
  (20, 6, []),
  (20, 6, []),
  (20, 6, []),
  (20, 6, []),
  (20, 6, []),
  (20, 6, []),
  (24, 4, [some 104, some 106, some 108, some 110]),
  (3, 0, [some 99, some 100, some 101, some 102, some 103, none, none, none]),
  (20, 60, []),
  (20, 60, []),
  (20, 60, []),
  (20, 60, []),
  (20, 60, []),
  (8, 0, [none, none, none, none, none, none, none, some 105]),
  (20, 8, []),
  (8, 0, [none, none, none, none, none, none, none, some 107]),
  (20, 8, []),
  (8, 0, [none, none, none, none, none, none, none, some 109]),
  (20, 8, []),
  (8, 0, [none, none, none, none, none, none, none, some 111]),
  (20, 8, []),
  (23, 3, [some 130, some 177, some 224]),
  (2, 0, [some 114, none, none, some 115, none, none]),
  (20, 8, []),
  (20, 20, []),
  (4, 0, [some 117, none, none, none]),
  (24, 4, [some 118, some 120, some 122, some 124]),
  (8, 0, [none, none, none, none, none, none, none, some 119]),
  (20, 8, []),
  (8, 0, [none, none, none, none, none, none, none, some 121]),
  (20, 8, []),
  (8, 0, [none, none, none, none, none, none, none, some 123]),
  (20, 8, []),
  (8, 0, [none, none, none, none, none, none, none, some 125]),
  (20, 8, []),
  (1, 0, [some 127, some 128, none, none]),
  (20, 5, []),
  (20, 60, []),
  (20, 5, []),
  (5, 0, [some 131, some 162, some 163, none]),
  (0, 0, [some 132, some 133, some 138, some 139, some 140, some 141, some 142, some 143, some 144, some 145, some 146, some 153, none, some 160, some 161]),
  (20, 4, []),
  (26, 4, [some 134, some 135, some 136, some 137]),
  (21, 8, []),
  (21, 8, []),
  (21, 8, []),
  (21, 8, []),
  (20, 6, []),
  (20, 6, []),
  (20, 6, []),
  (20, 6, []),
  (20, 8, []),
  (20, 8, []),
  (20, 8, []),
  (20, 6, []),
  (27, 6, [some 147, some 148, some 149, some 150, some 151, some 152]),
  (20, 8, []),
  (20, 8, []),
  (20, 8, []),
  (20, 8, []),
  (20, 8, []),
  (20, 8, []),
  (28, 6, [some 154, some 155, some 156, some 157, some 158, some 159]),
  (20, 6, []),
  (20, 6, []),
  (20, 6, []),
  (20, 6, []),
  (20, 6, []),
  (20, 6, []),
  (20, 6, []),
  (20, 6, []),
  (24, 4, [some 169, some 171, some 173, some 175]),
  (3, 0, [some 164, some 165, some 166, some 167, some 168, none, none, none]),
  (20, 60, []),
  (20, 60, []),
  (20, 60, []),
  (20, 60, []),
  (20, 60, []),
  (8, 0, [none, none, none, none, none, none, none, some 170]),
  (20, 8, []),
  (8, 0, [none, none, none, none, none, none, none, some 172]),
  (20, 8, []),
  (8, 0, [none, none, none, none, none, none, none, some 174]),
  (20, 8, []),
  (8, 0, [none, none, none, none, none, none, none, some 176]),
  (20, 8, []),
  (5, 0, [some 178, some 209, some 210, none]),
  (0, 0, [some 179, some 180, some 185, some 186, some 187, some 188, some 189, some 190, some 191, some 192, some 193, some 200, none, some 207, some 208]),
  (20, 4, []),
  (26, 4, [some 181, some 182, some 183, some 184]),
  (21, 8, []),
  (21, 8, []),
  (21, 8, []),
  (21, 8, []),
  (20, 6, []),
  (20, 6, []),
  (20, 6, []),
  (20, 6, []),
  (20, 8, []),
  (20, 8, []),
  (20, 8, []),
  (20, 6, []),
  (27, 6, [some 194, some 195, some 196, some 197, some 198, some 199]),
  (20, 8, []),
  (20, 8, []),
  (20, 8, []),
  (20, 8, []),
  (20, 8, []),
  (20, 8, []),
  (28, 6, [some 201, some 202, some 203, some 204, some 205, some 206]),
  (20, 6, []),
  (20, 6, []),
  (20, 6, []),
  (20, 6, []),
  (20, 6, []),
  (20, 6, []),
  (20, 6, []),
  (20, 6, []),
  (24, 4, [some 216, some 218, some 220, some 222]),
  (3, 0, [some 211, some 212, some 213, some 214, some 215, none, none, none]),
  (20, 60, []),
  (20, 60, []),
  (20, 60, []),
  (20, 60, []),
  (20, 60, []),
  (8, 0, [none, none, none, none, none, none, none, some 217]),
  (20, 8, []),
  (8, 0, [none, none, none, none, none, none, none, some 219]),
  (20, 8, []),
  (8, 0, [none, none, none, none, none, none, none, some 221]),
  (20, 8, []),
  (8, 0, [none, none, none, none, none, none, none, some 223]),
  (20, 8, []),
  (5, 0, [some 225, some 256, some 257, none]),
  (0, 0, [some 226, some 227, some 232, some 233, some 234, some 235, some 236, some 237, some 238, some 239, some 240, some 247, none, some 254, some 255]),
  (20, 4, []),
  (26, 4, [some 228, some 229, some 230, some 231]),
  (21, 8, []),
  (21, 8, []),
  (21, 8, []),
  (21, 8, []),
  (20, 6, []),
  (20, 6, []),
  (20, 6, []),
  (20, 6, []),
  (20, 8, []),
  (20, 8, []),
  (20, 8, []),
  (20, 6, []),
  (27, 6, [some 241, some 242, some 243, some 244, some 245, some 246]),
  (20, 8, []),
  (20, 8, []),
  (20, 8, []),
  (20, 8, []),
  (20, 8, []),
  (20, 8, []),
  (28, 6, [some 248, some 249, some 250, some 251, some 252, some 253]),
  (20, 6, []),
  (20, 6, []),
  (20, 6, []),
  (20, 6, []),
  (20, 6, []),
  (20, 6, []),
  (20, 6, []),
  (20, 6, []),
  (24, 4, [some 263, some 265, some 267, some 269]),
  (3, 0, [some 258, some 259, some 260, some 261, some 262, none, none, none]),
  (20, 60, []),
  (20, 60, []),
  (20, 60, []),
  (20, 60, []),
  (20, 60, []),
  (8, 0, [none, none, none, none, none, none, none, some 264]),
  (20, 8, []),
  (8, 0, [none, none, none, none, none, none, none, some 266]),
  (20, 8, []),
  (8, 0, [none, none, none, none, none, none, none, some 268]),
  (20, 8, []),
  (8, 0, [none, none, none, none, none, none, none, some 270]),
  (20, 8, []),
  (12, 0, [some 272, some 273, none, none, none, some 274, some 275, some 276, some 277, some 278, none, none, none, none, none, none, none, none, none, none, none, some 279, none, none, some 280, none, none, none, some 281, some 282, none, none, some 283, none, none, none, none, some 284, some 285, some 286, none, none]),
  (20, 4004, []),
  (21, 144, []),
  (20, 4, []),
  (20, 4, []),
  (21, 240, []),
  (22, 900, []),
  (22, 900, []),
  (20, 3, []),
  (20, 8, []),
  (20, 4, []),
  (20, 60, []),
  (20, 6, []),
  (20, 80, []),
  (20, 5, []),
  (20, 5, [])]
def isSt (s : Nat) : Prop := s = 18 ∨ s = 65 ∨ s = 130 ∨ s = 177 ∨ s = 224
def isCh (c : Nat) : Prop := c = 19 ∨ c = 66 ∨ c = 131 ∨ c = 178 ∨ c = 225
def isV (v : Nat) : Prop := v = 57 ∨ v = 59 ∨ v = 61 ∨ v = 63 ∨ v = 104 ∨ v = 106 ∨ v = 108 ∨ v = 110 ∨ v = 169 ∨ v = 171 ∨ v = 173 ∨ v = 175 ∨ v = 216 ∨ v = 218 ∨ v = 220 ∨ v = 222 ∨ v = 263 ∨ v = 265 ∨ v = 267 ∨ v = 269 ∨ v = 118 ∨ v = 120 ∨ v = 122 ∨ v = 124
theorem isSt.ch {s : Nat} (h : isSt s) : isCh (s + 1) := by
  rcases h with rfl | rfl | rfl | rfl | rfl <;> simp [isCh]
theorem isSt.v {s : Nat} (h : isSt s) {i : Nat} (hi : i < 4) : isV (s + 39 + 2 * i) := by
  unfold isV
  rcases h with rfl | rfl | rfl | rfl | rfl <;> omega
theorem isV.leg {i : Nat} (hi : i < 4) : isV (118 + 2 * i) := by
  unfold isV
  omega
/-- references of the model -/
theorem rM (L : Nat) : refOf (SH L) 271 0 = some 272 ∧ refOf (SH L) 271 1 = some 273 ∧ refOf (SH L) 271 5 = some 274 ∧ refOf (SH L) 271 6 = some 275 ∧ refOf (SH L) 271 7 = some 276 ∧ refOf (SH L) 271 8 = some 277 ∧ refOf (SH L) 271 9 = some 278 ∧ refOf (SH L) 271 21 = some 279 ∧ refOf (SH L) 271 24 = some 280 ∧ refOf (SH L) 271 28 = some 281 ∧ refOf (SH L) 271 29 = some 282 ∧ refOf (SH L) 271 32 = some 283 ∧ refOf (SH L) 271 37 = some 284 ∧ refOf (SH L) 271 38 = some 285 ∧ refOf (SH L) 271 39 = some 286 := by
  refine ⟨rfl, rfl, rfl, rfl, rfl, rfl, rfl, rfl, rfl, rfl, rfl, rfl, rfl, rfl, rfl⟩
/-- references of the class's object and of its single parts -/
theorem rK (L : Nat) : refOf (SH L) 3 0 = some 4 ∧ refOf (SH L) 3 1 = some 12 ∧ refOf (SH L) 3 2 = some 15 ∧ refOf (SH L) 3 3 = some 16 ∧ refOf (SH L) 3 4 = some 18 ∧ refOf (SH L) 3 5 = some 65 ∧ refOf (SH L) 3 6 = some 112 ∧ refOf (SH L) 3 7 = some 113 ∧ refOf (SH L) 3 8 = some 116 ∧ refOf (SH L) 3 9 = some 126 ∧ refOf (SH L) 3 10 = some 129 ∧ refOf (SH L) 4 0 = some 5 ∧ refOf (SH L) 4 1 = some 10 ∧ refOf (SH L) 4 2 = some 11 ∧ refOf (SH L) 12 0 = some 13 ∧ refOf (SH L) 12 1 = some 14 ∧ refOf (SH L) 16 0 = some 17 ∧ refOf (SH L) 113 0 = some 114 ∧ refOf (SH L) 113 3 = some 115 ∧ refOf (SH L) 116 0 = some 117 ∧ refOf (SH L) 126 0 = some 127 ∧ refOf (SH L) 126 1 = some 128 := by
  refine ⟨rfl, rfl, rfl, rfl, rfl, rfl, rfl, rfl, rfl, rfl, rfl, rfl, rfl, rfl, rfl, rfl, rfl, rfl, rfl, rfl, rfl, rfl⟩
theorem rC {L c : Nat} (h : isCh c) : refOf (SH L) c 0 = some (c + 1) ∧ refOf (SH L) c 1 = some (c + 2) ∧ refOf (SH L) c 2 = some (c + 7) ∧ refOf (SH L) c 3 = some (c + 8) ∧ refOf (SH L) c 4 = some (c + 9) ∧ refOf (SH L) c 5 = some (c + 10) ∧ refOf (SH L) c 6 = some (c + 11) ∧ refOf (SH L) c 7 = some (c + 12) ∧ refOf (SH L) c 8 = some (c + 13) ∧ refOf (SH L) c 9 = some (c + 14) ∧ refOf (SH L) c 10 = some (c + 15) ∧ refOf (SH L) c 11 = some (c + 22) ∧ refOf (SH L) c 13 = some (c + 29) ∧ refOf (SH L) c 14 = some (c + 30) := by
  rcases h with rfl | rfl | rfl | rfl | rfl <;> exact ⟨rfl, rfl, rfl, rfl, rfl, rfl, rfl, rfl, rfl, rfl, rfl, rfl, rfl, rfl⟩
theorem rCn {L c k : Nat} (h : isCh c) (hk : k < 4) : refOf (SH L) (c + 2) k = some (c + 3 + k) := by
  rcases h with rfl | rfl | rfl | rfl | rfl <;> rcases k with _ | _ | _ | _ | k <;> first | rfl | omega
theorem rCp {L c k : Nat} (h : isCh c) (hk : k < 6) : refOf (SH L) (c + 15) k = some (c + 16 + k) := by
  rcases h with rfl | rfl | rfl | rfl | rfl <;> rcases k with _ | _ | _ | _ | _ | _ | k <;> first | rfl | omega
theorem rCd {L c k : Nat} (h : isCh c) (hk : k < 6) : refOf (SH L) (c + 22) k = some (c + 23 + k) := by
  rcases h with rfl | rfl | rfl | rfl | rfl <;> rcases k with _ | _ | _ | _ | _ | _ | k <;> first | rfl | omega
theorem rS {L s : Nat} (h : isSt s) : refOf (SH L) s 0 = some (s + 1) ∧ refOf (SH L) s 1 = some (s + 32) ∧ refOf (SH L) s 2 = some (s + 33) ∧ refOf (SH L) (s + 33) 0 = some (s + 34) ∧ refOf (SH L) (s + 33) 1 = some (s + 35) ∧ refOf (SH L) (s + 33) 2 = some (s + 36) ∧ refOf (SH L) (s + 33) 3 = some (s + 37) ∧ refOf (SH L) (s + 33) 4 = some (s + 38) := by
  rcases h with rfl | rfl | rfl | rfl | rfl <;> exact ⟨rfl, rfl, rfl, rfl, rfl, rfl, rfl, rfl⟩
theorem rF {L s k : Nat} (h : isSt s) (hk : k < 4) : refOf (SH L) (s + 32) k = some (s + 39 + 2 * k) := by
  rcases h with rfl | rfl | rfl | rfl | rfl <;> rcases k with _ | _ | _ | _ | k <;> first | rfl | omega
theorem rV {L v : Nat} (h : isV v) : refOf (SH L) v 7 = some (v + 1) := by
  rcases h with rfl | rfl | rfl | rfl | rfl | rfl | rfl | rfl | rfl | rfl | rfl | rfl | rfl | rfl | rfl | rfl | rfl | rfl | rfl | rfl | rfl | rfl | rfl | rfl <;> rfl
theorem rLeg {L k : Nat} (hk : k < 4) : refOf (SH L) 117 k = some (118 + 2 * k) := by
  rcases k with _ | _ | _ | _ | k <;> first | rfl | omega
theorem rMark {L k : Nat} (hk : k < 3) : refOf (SH L) 112 k = some (130 + 47 * k) := by
  rcases k with _ | _ | _ | k <;> first | rfl | omega
theorem rRow {L k : Nat} (hk : k < 4) : refOf (SH L) 5 k = some (6 + k) := by
  rcases k with _ | _ | _ | _ | k <;> first | rfl | omega
theorem rN (L : Nat) : refOf (SH L) 18 0 = some 19 ∧ refOf (SH L) 18 1 = some 50 ∧ refOf (SH L) 18 2 = some 51 ∧ refOf (SH L) 19 0 = some 20 ∧ refOf (SH L) 19 1 = some 21 ∧ refOf (SH L) 19 2 = some 26 ∧ refOf (SH L) 19 3 = some 27 ∧ refOf (SH L) 19 4 = some 28 ∧ refOf (SH L) 19 5 = some 29 ∧ refOf (SH L) 19 6 = some 30 ∧ refOf (SH L) 19 7 = some 31 ∧ refOf (SH L) 19 8 = some 32 ∧ refOf (SH L) 19 9 = some 33 ∧ refOf (SH L) 19 10 = some 34 ∧ refOf (SH L) 19 11 = some 41 ∧ refOf (SH L) 19 13 = some 48 ∧ refOf (SH L) 19 14 = some 49 ∧ refOf (SH L) 51 0 = some 52 ∧ refOf (SH L) 51 1 = some 53 ∧ refOf (SH L) 51 2 = some 54 ∧ refOf (SH L) 51 3 = some 55 ∧ refOf (SH L) 51 4 = some 56 := by
  exact ⟨rfl, rfl, rfl, rfl, rfl, rfl, rfl, rfl, rfl, rfl, rfl, rfl, rfl, rfl, rfl, rfl, rfl, rfl, rfl, rfl, rfl, rfl⟩
theorem rNf {L k : Nat} (hk : k < 4) : refOf (SH L) 50 k = some (57 + 2 * k) := by
  rcases k with _ | _ | _ | _ | k <;> first | rfl | omega
theorem rNv {L k : Nat} (hk : k < 4) : refOf (SH L) (57 + 2 * k) 7 = some (58 + 2 * k) := by
  rcases k with _ | _ | _ | _ | k <;> first | rfl | omega
theorem rNp {L k : Nat} (hk : k < 6) : refOf (SH L) 34 k = some (35 + k) := by
  rcases k with _ | _ | _ | _ | _ | _ | k <;> first | rfl | omega
theorem rNd {L k : Nat} (hk : k < 6) : refOf (SH L) 41 k = some (42 + k) := by
  rcases k with _ | _ | _ | _ | _ | _ | k <;> first | rfl | omega
theorem isV_now {k : Nat} (hk : k < 4) : isV (57 + 2 * k) := isSt.v (s := 18) (Or.inl rfl) hk
theorem ch19 : isCh 19 := Or.inl rfl
/-! arithmetic -/
theorem w32_id {x : Int} (h1 : -2147483648 ≤ x) (h2 : x < 2147483648) : w32 x = x := by
  unfold w32
  rw [Int.bmod_def]
  split <;> omega
theorem w64_id {x : Int} (h1 : -9223372036854775808 ≤ x) (h2 : x < 9223372036854775808) : w64 x = x := by
  unfold w64
  rw [Int.bmod_def]
  split <;> omega
theorem tLe {a b : Int} (h : a ≤ b) : (a ≤ b) = True := eq_true h
theorem nat_mul3 {b : Int} (hb : 0 ≤ b) : (3 * b).toNat = 3 * b.toNat := by omega
theorem nat_mul4 {b : Int} (hb : 0 ≤ b) : (4 * b).toNat = 4 * b.toNat := by omega
theorem nat_mul6 {b : Int} (hb : 0 ≤ b) : (6 * b).toNat = 6 * b.toNat := by omega
theorem nat_mul15 {b : Int} (hb : 0 ≤ b) : (15 * b).toNat = 15 * b.toNat := by omega
theorem nat_mul60 {b : Int} (hb : 0 ≤ b) : (60 * b).toNat = 60 * b.toNat := by omega
theorem nc1 (k : Nat) : ((k + 1 : Nat) : Int) = (k : Int) + 1 := rfl
theorem i0 (n : Nat) : n + 0 = n := rfl
theorem bR_go {S : Sp} {a k b : Nat} {f : Nat → Option Rs} {R : Option Rs} (h : refOf S a k = some b) (h' : f b = R) : bR (refOf S a k) f = R := by rw [h]; exact h'
theorem bI_go {o : Option Rs} {x : Int} {S : Sp} {M : Mm} {f : Int → Sp → Mm → Option Rs} {R : Option Rs} (h : o = some (some (vI x), S, M)) (h' : f x S M = R) : bndI o f = R := by rw [h]; exact h'
theorem bL_go {o : Option Rs} {x : Int} {S : Sp} {M : Mm} {f : Int → Sp → Mm → Option Rs} {R : Option Rs} (h : o = some (some (vL x), S, M)) (h' : f x S M = R) : bndL o f = R := by rw [h]; exact h'
theorem bV_go {o : Option Rs} {S : Sp} {M : Mm} {f : Sp → Mm → Option Rs} {R : Option Rs} (h : o = some (none, S, M)) (h' : f S M = R) : bndV o f = R := by rw [h]; exact h'
theorem it_1 {c : Prop} {i : Decidable c} {a b R : Option Rs} (h : c) (h' : a = R) : @ite _ c i a b = R := by rw [if_pos h]; exact h'
theorem it_2 {c : Prop} {i : Decidable c} {a b R : Option Rs} (h : ¬c) (h' : b = R) : @ite _ c i a b = R := by rw [if_neg h]; exact h'
theorem cl_go {d y : Nat} {args : List AV} {S : Sp} {M : Mm} {R : Option Rs} (h : callD d y args S M = R) : callD d y args S M = R := h
theorem rn_go {K : Cal} {C : Cd} {pc : Nat} {ls st : List AV} {S : Sp} {M : Mm} {R : Option Rs} (h : Run K C pc ls st S M = R) : Run K C pc ls st S M = R := h
theorem lf_go {x : Rs} {R : Option Rs} (h : some x = R) : some x = R := h
theorem tLt {a b : Int} (h : a < b) : (a < b) = True := eq_true h
theorem fLt {a b : Int} (h : b ≤ a) : (a < b) = False := eq_false (by omega)
theorem itE {α : Type} {a b : Int} {i : Decidable (a = b)} {x y : α} (h : a = b) : @ite α (a = b) i x y = x := if_pos h
theorem fEq {a b : Int} (h : a < b ∨ b < a) : (a = b) = False := eq_false (by omega)
theorem upE {M : Mm} {a k b j : Nat} {v : Int} (h1 : b = a) (h2 : j = k) : up M a k v b j = v := by
  unfold up
  rw [if_pos ⟨h1, h2⟩]
theorem upN {M : Mm} {a k b j : Nat} {v : Int} (h : b ≠ a ∨ j ≠ k) : up M a k v b j = M b j := by
  unfold up
  rw [if_neg (by omega)]
theorem nat_add {a b : Int} (ha : 0 ≤ a) (hb : 0 ≤ b) : (a + b).toNat = a.toNat + b.toNat := by omega
theorem nat_mul (n : Nat) {b : Int} (hb : 0 ≤ b) : ((n : Int) * b).toNat = n * b.toNat := by
  obtain ⟨k, rfl⟩ := Int.eq_ofNat_of_zero_le hb
  rw [← Int.natCast_mul]
  rfl
theorem nat_cast (n : Nat) : (n : Int).toNat = n := rfl
/-! what a run comes to, with its ways apart -/
def Wp (o : Option Rs) (Q : Option AV → Sp → Mm → Prop) : Prop := ∃ r S M, o = some (r, S, M) ∧ Q r S M
def KI (f : Int → Sp → Mm → Option Rs) (Q : Option AV → Sp → Mm → Prop) : Option AV → Sp → Mm → Prop := fun r S M => ∃ x, r = some (vI x) ∧ Wp (f x S M) Q
def KL (f : Int → Sp → Mm → Option Rs) (Q : Option AV → Sp → Mm → Prop) : Option AV → Sp → Mm → Prop := fun r S M => ∃ x, r = some (vL x) ∧ Wp (f x S M) Q
def KV (f : Sp → Mm → Option Rs) (Q : Option AV → Sp → Mm → Prop) : Option AV → Sp → Mm → Prop := fun r S M => r = none ∧ Wp (f S M) Q
theorem wp_eq {o o' : Option Rs} {Q : Option AV → Sp → Mm → Prop} (h : o = o') (h' : Wp o' Q) : Wp o Q := by rw [h]; exact h'
theorem wp_bR {S : Sp} {a k b : Nat} {f : Nat → Option Rs} {Q : Option AV → Sp → Mm → Prop} (h : refOf S a k = some b) (h' : Wp (f b) Q) : Wp (bR (refOf S a k) f) Q := by rw [h]; exact h'
theorem wp_bI {o : Option Rs} {f : Int → Sp → Mm → Option Rs} {Q : Option AV → Sp → Mm → Prop} (h : Wp o (KI f Q)) : Wp (bndI o f) Q := by
  obtain ⟨r, S, M, e, x, e', h⟩ := h
  rw [e, e']; exact h
theorem wp_bL {o : Option Rs} {f : Int → Sp → Mm → Option Rs} {Q : Option AV → Sp → Mm → Prop} (h : Wp o (KL f Q)) : Wp (bndL o f) Q := by
  obtain ⟨r, S, M, e, x, e', h⟩ := h
  rw [e, e']; exact h
theorem wp_bV {o : Option Rs} {f : Sp → Mm → Option Rs} {Q : Option AV → Sp → Mm → Prop} (h : Wp o (KV f Q)) : Wp (bndV o f) Q := by
  obtain ⟨r, S, M, e, e', h⟩ := h
  rw [e, e']; exact h
theorem wp_rI {x : Int} {S : Sp} {M : Mm} {f : Int → Sp → Mm → Option Rs} {Q : Option AV → Sp → Mm → Prop} (h : Wp (f x S M) Q) : Wp (some (some (vI x), S, M)) (KI f Q) := ⟨_, _, _, rfl, _, rfl, h⟩
theorem wp_rL {x : Int} {S : Sp} {M : Mm} {f : Int → Sp → Mm → Option Rs} {Q : Option AV → Sp → Mm → Prop} (h : Wp (f x S M) Q) : Wp (some (some (vL x), S, M)) (KL f Q) := ⟨_, _, _, rfl, _, rfl, h⟩
theorem wp_rV {S : Sp} {M : Mm} {f : Sp → Mm → Option Rs} {Q : Option AV → Sp → Mm → Prop} (h : Wp (f S M) Q) : Wp (some (none, S, M)) (KV f Q) := ⟨_, _, _, rfl, rfl, h⟩
theorem wp_ret {r : Option AV} {S : Sp} {M : Mm} {Q : Option AV → Sp → Mm → Prop} (h : Q r S M) : Wp (some (r, S, M)) Q := ⟨_, _, _, rfl, h⟩
theorem wp_1 {c : Prop} {i : Decidable c} {a b : Option Rs} {Q : Option AV → Sp → Mm → Prop} (h : c) (h' : Wp a Q) : Wp (@ite _ c i a b) Q := by rw [if_pos h]; exact h'
theorem wp_2 {c : Prop} {i : Decidable c} {a b : Option Rs} {Q : Option AV → Sp → Mm → Prop} (h : ¬c) (h' : Wp b Q) : Wp (@ite _ c i a b) Q := by rw [if_neg h]; exact h'
theorem wp_s {c c' : Prop} {i : Decidable c} {a b : Option Rs} {Q : Option AV → Sp → Mm → Prop} (e : c ↔ c') (h1 : c' → Wp a Q) (h2 : ¬c' → Wp b Q) : Wp (@ite _ c i a b) Q := by
  by_cases h : c
  · rw [if_pos h]; exact h1 (e.mp h)
  · rw [if_neg h]; exact h2 fun k => h (e.mpr k)
theorem wp_mono {o : Option Rs} {Q Q' : Option AV → Sp → Mm → Prop} (h : Wp o Q) (h' : ∀ r S M, Q r S M → Q' r S M) : Wp o Q' := by
  obtain ⟨r, S, M, e, hq⟩ := h
  exact ⟨r, S, M, e, h' r S M hq⟩
/-- a counted loop: what a turn does not change -/
theorem loop_up (G : Nat → Option Rs) (n : Nat) (h : ∀ k, k < n → G k = G (k + 1)) : ∀ k, k ≤ n → G k = G n := by
  intro k hk
  obtain ⟨j, rfl⟩ : ∃ j, n = k + j := ⟨n - k, by omega⟩
  clear hk
  induction j with
  | zero => rfl
  | succ j ih => rw [ih (fun i hi => h i (by omega)), h (k + j) (by omega)]; rfl
/-! CALLS: a call of a method is a run of its table -/
theorem c_Ca_init {d : Nat} (hd : 1 ≤ d) (a0 : Nat) (S : Sp) (M : Mm) : callD d m_Ca_init [vR 11 0 a0] S M = Run (callD (d - 1)) tb_Ca_init 0 [vR 11 0 a0, vU] [] S M := by
  obtain ⟨e, rfl⟩ : ∃ e, d = e + 1 := ⟨d - 1, by omega⟩
  exact rfl
theorem c_Trays_init {d : Nat} (hd : 1 ≤ d) (a0 : Nat) (S : Sp) (M : Mm) : callD d m_Trays_init [vR 7 0 a0] S M = Run (callD (d - 1)) tb_Trays_init 0 [vR 7 0 a0] [] S M := by
  obtain ⟨e, rfl⟩ : ∃ e, d = e + 1 := ⟨d - 1, by omega⟩
  exact rfl
theorem c_Arrays_fill0 {d : Nat} (hd : 1 ≤ d) (a0 : Nat) (n0 : Int) (x1 : Int) (S : Sp) (M : Mm) : callD d m_Arrays_fill0 [vR 20 n0 a0, vI x1] S M = Run (callD (d - 1)) tb_Arrays_fill0 0 [vR 20 n0 a0, vI x1, vU, vU] [] S M := by
  obtain ⟨e, rfl⟩ : ∃ e, d = e + 1 := ⟨d - 1, by omega⟩
  exact rfl
theorem c_Tape_init {d : Nat} (hd : 1 ≤ d) (a0 : Nat) (S : Sp) (M : Mm) : callD d m_Tape_init [vR 6 0 a0] S M = Run (callD (d - 1)) tb_Tape_init 0 [vR 6 0 a0, vU, vU, vU, vU, vU] [] S M := by
  obtain ⟨e, rfl⟩ : ∃ e, d = e + 1 := ⟨d - 1, by omega⟩
  exact rfl
theorem c_WorldText_init {d : Nat} (hd : 1 ≤ d) (a0 : Nat) (S : Sp) (M : Mm) : callD d m_WorldText_init [vR 10 0 a0] S M = Run (callD (d - 1)) tb_WorldText_init 0 [vR 10 0 a0] [] S M := by
  obtain ⟨e, rfl⟩ : ∃ e, d = e + 1 := ⟨d - 1, by omega⟩
  exact rfl
theorem c_VoyageText_init {d : Nat} (hd : 1 ≤ d) (a0 : Nat) (S : Sp) (M : Mm) : callD d m_VoyageText_init [vR 9 0 a0] S M = Run (callD (d - 1)) tb_VoyageText_init 0 [vR 9 0 a0] [] S M := by
  obtain ⟨e, rfl⟩ : ∃ e, d = e + 1 := ⟨d - 1, by omega⟩
  exact rfl
theorem c_State_init {d : Nat} (hd : 1 ≤ d) (a0 : Nat) (S : Sp) (M : Mm) : callD d m_State_init [vR 5 0 a0] S M = Run (callD (d - 1)) tb_State_init 0 [vR 5 0 a0, vU] [] S M := by
  obtain ⟨e, rfl⟩ : ∃ e, d = e + 1 := ⟨d - 1, by omega⟩
  exact rfl
theorem c_Chart_init {d : Nat} (hd : 1 ≤ d) (a0 : Nat) (S : Sp) (M : Mm) : callD d m_Chart_init [vR 0 0 a0] S M = Run (callD (d - 1)) tb_Chart_init 0 [vR 0 0 a0] [] S M := by
  obtain ⟨e, rfl⟩ : ∃ e, d = e + 1 := ⟨d - 1, by omega⟩
  exact rfl
theorem c_Plan_init {d : Nat} (hd : 1 ≤ d) (a0 : Nat) (S : Sp) (M : Mm) : callD d m_Plan_init [vR 3 0 a0] S M = Run (callD (d - 1)) tb_Plan_init 0 [vR 3 0 a0] [] S M := by
  obtain ⟨e, rfl⟩ : ∃ e, d = e + 1 := ⟨d - 1, by omega⟩
  exact rfl
theorem c_Vessel_init {d : Nat} (hd : 1 ≤ d) (a0 : Nat) (S : Sp) (M : Mm) : callD d m_Vessel_init [vR 8 0 a0] S M = Run (callD (d - 1)) tb_Vessel_init 0 [vR 8 0 a0] [] S M := by
  obtain ⟨e, rfl⟩ : ∃ e, d = e + 1 := ⟨d - 1, by omega⟩
  exact rfl
theorem c_Outlook_init {d : Nat} (hd : 1 ≤ d) (a0 : Nat) (S : Sp) (M : Mm) : callD d m_Outlook_init [vR 2 0 a0] S M = Run (callD (d - 1)) tb_Outlook_init 0 [vR 2 0 a0] [] S M := by
  obtain ⟨e, rfl⟩ : ∃ e, d = e + 1 := ⟨d - 1, by omega⟩
  exact rfl
theorem c_Search_init {d : Nat} (hd : 1 ≤ d) (a0 : Nat) (S : Sp) (M : Mm) : callD d m_Search_init [vR 4 0 a0] S M = Run (callD (d - 1)) tb_Search_init 0 [vR 4 0 a0, vU] [] S M := by
  obtain ⟨e, rfl⟩ : ∃ e, d = e + 1 := ⟨d - 1, by omega⟩
  exact rfl
theorem c_Life_init {d : Nat} (hd : 1 ≤ d) (a0 : Nat) (S : Sp) (M : Mm) : callD d m_Life_init [vR 1 0 a0] S M = Run (callD (d - 1)) tb_Life_init 0 [vR 1 0 a0] [] S M := by
  obtain ⟨e, rfl⟩ : ∃ e, d = e + 1 := ⟨d - 1, by omega⟩
  exact rfl
theorem c_Ca_status {d : Nat} (hd : 1 ≤ d) (a0 : Nat) (S : Sp) (M : Mm) : callD d m_Ca_status [vR 11 0 a0] S M = Run (callD (d - 1)) tb_Ca_status 0 [vR 11 0 a0] [] S M := by
  obtain ⟨e, rfl⟩ : ∃ e, d = e + 1 := ⟨d - 1, by omega⟩
  exact rfl
theorem c_Ca_top {d : Nat} (hd : 1 ≤ d) (a0 : Nat) (S : Sp) (M : Mm) : callD d m_Ca_top [vR 11 0 a0] S M = Run (callD (d - 1)) tb_Ca_top 0 [vR 11 0 a0] [] S M := by
  obtain ⟨e, rfl⟩ : ∃ e, d = e + 1 := ⟨d - 1, by omega⟩
  exact rfl
theorem c_Ca_bottom {d : Nat} (hd : 1 ≤ d) (a0 : Nat) (S : Sp) (M : Mm) : callD d m_Ca_bottom [vR 11 0 a0] S M = Run (callD (d - 1)) tb_Ca_bottom 0 [vR 11 0 a0] [] S M := by
  obtain ⟨e, rfl⟩ : ∃ e, d = e + 1 := ⟨d - 1, by omega⟩
  exact rfl
theorem c_Ca_tray {d : Nat} (hd : 1 ≤ d) (a0 : Nat) (x1 : Int) (x2 : Int) (x3 : Int) (S : Sp) (M : Mm) : callD d m_Ca_tray [vR 11 0 a0, vI x1, vI x2, vI x3] S M = Run (callD (d - 1)) tb_Ca_tray 0 [vR 11 0 a0, vI x1, vI x2, vI x3] [] S M := by
  obtain ⟨e, rfl⟩ : ∃ e, d = e + 1 := ⟨d - 1, by omega⟩
  exact rfl
theorem c_Trays_isTray {d : Nat} (hd : 1 ≤ d) (x0 : Int) (S : Sp) (M : Mm) : callD d m_Trays_isTray [vI x0] S M = Run (callD (d - 1)) tb_Trays_isTray 0 [vI x0] [] S M := by
  obtain ⟨e, rfl⟩ : ∃ e, d = e + 1 := ⟨d - 1, by omega⟩
  exact rfl
theorem c_Ca_within {d : Nat} (hd : 1 ≤ d) (x0 : Int) (x1 : Int) (x2 : Int) (S : Sp) (M : Mm) : callD d m_Ca_within [vI x0, vI x1, vI x2] S M = Run (callD (d - 1)) tb_Ca_within 0 [vI x0, vI x1, vI x2] [] S M := by
  obtain ⟨e, rfl⟩ : ∃ e, d = e + 1 := ⟨d - 1, by omega⟩
  exact rfl
theorem c_Ca_deny {d : Nat} (hd : 1 ≤ d) (a0 : Nat) (x1 : Int) (S : Sp) (M : Mm) : callD d m_Ca_deny [vR 11 0 a0, vI x1] S M = Run (callD (d - 1)) tb_Ca_deny 0 [vR 11 0 a0, vI x1] [] S M := by
  obtain ⟨e, rfl⟩ : ∃ e, d = e + 1 := ⟨d - 1, by omega⟩
  exact rfl
theorem c_Trays_lay {d : Nat} (hd : 1 ≤ d) (a0 : Nat) (x1 : Int) (x2 : Int) (x3 : Int) (S : Sp) (M : Mm) : callD d m_Trays_lay [vR 7 0 a0, vI x1, vI x2, vI x3] S M = Run (callD (d - 1)) tb_Trays_lay 0 [vR 7 0 a0, vI x1, vI x2, vI x3] [] S M := by
  obtain ⟨e, rfl⟩ : ∃ e, d = e + 1 := ⟨d - 1, by omega⟩
  exact rfl
theorem c_Arrays_fill1 {d : Nat} (hd : 1 ≤ d) (a0 : Nat) (n0 : Int) (x1 : Int) (S : Sp) (M : Mm) : callD d m_Arrays_fill1 [vR 21 n0 a0, vL x1] S M = Run (callD (d - 1)) tb_Arrays_fill1 0 [vR 21 n0 a0, vL x1, vU, vU, vU] [] S M := by
  obtain ⟨e, rfl⟩ : ∃ e, d = e + 1 := ⟨d - 1, by omega⟩
  exact rfl
theorem c_Ca_agree {d : Nat} (hd : 1 ≤ d) (a0 : Nat) (S : Sp) (M : Mm) : callD d m_Ca_agree [vR 11 0 a0] S M = Run (callD (d - 1)) tb_Ca_agree 0 [vR 11 0 a0] [] S M := by
  obtain ⟨e, rfl⟩ : ∃ e, d = e + 1 := ⟨d - 1, by omega⟩
  exact rfl
theorem c_Ca_write {d : Nat} (hd : 1 ≤ d) (a0 : Nat) (x1 : Int) (x2 : Int) (x3 : Int) (S : Sp) (M : Mm) : callD d m_Ca_write [vR 11 0 a0, vI x1, vI x2, vL x3] S M = Run (callD (d - 1)) tb_Ca_write 0 [vR 11 0 a0, vI x1, vI x2, vL x3, vU, vU] [] S M := by
  obtain ⟨e, rfl⟩ : ∃ e, d = e + 1 := ⟨d - 1, by omega⟩
  exact rfl
theorem c_Trays_troubleAt {d : Nat} (hd : 1 ≤ d) (a0 : Nat) (x1 : Int) (x2 : Int) (S : Sp) (M : Mm) : callD d m_Trays_troubleAt [vR 7 0 a0, vI x1, vI x2] S M = Run (callD (d - 1)) tb_Trays_troubleAt 0 [vR 7 0 a0, vI x1, vI x2] [] S M := by
  obtain ⟨e, rfl⟩ : ∃ e, d = e + 1 := ⟨d - 1, by omega⟩
  exact rfl
theorem c_Trays_isMissing {d : Nat} (hd : 1 ≤ d) (a0 : Nat) (x1 : Int) (S : Sp) (M : Mm) : callD d m_Trays_isMissing [vR 7 0 a0, vI x1] S M = Run (callD (d - 1)) tb_Trays_isMissing 0 [vR 7 0 a0, vI x1] [] S M := by
  obtain ⟨e, rfl⟩ : ∃ e, d = e + 1 := ⟨d - 1, by omega⟩
  exact rfl
theorem c_Trays_put {d : Nat} (hd : 1 ≤ d) (a0 : Nat) (x1 : Int) (x2 : Int) (x3 : Int) (S : Sp) (M : Mm) : callD d m_Trays_put [vR 7 0 a0, vI x1, vI x2, vL x3] S M = Run (callD (d - 1)) tb_Trays_put 0 [vR 7 0 a0, vI x1, vI x2, vL x3, vU] [] S M := by
  obtain ⟨e, rfl⟩ : ∃ e, d = e + 1 := ⟨d - 1, by omega⟩
  exact rfl
theorem c_Trays_cut {d : Nat} (hd : 1 ≤ d) (x0 : Int) (x2 : Int) (S : Sp) (M : Mm) : callD d m_Trays_cut [vL x0, vI x2] S M = Run (callD (d - 1)) tb_Trays_cut 0 [vL x0, vU, vI x2] [] S M := by
  obtain ⟨e, rfl⟩ : ∃ e, d = e + 1 := ⟨d - 1, by omega⟩
  exact rfl
theorem c_Ca_read {d : Nat} (hd : 1 ≤ d) (a0 : Nat) (x1 : Int) (x2 : Int) (S : Sp) (M : Mm) : callD d m_Ca_read [vR 11 0 a0, vI x1, vI x2] S M = Run (callD (d - 1)) tb_Ca_read 0 [vR 11 0 a0, vI x1, vI x2, vU] [] S M := by
  obtain ⟨e, rfl⟩ : ∃ e, d = e + 1 := ⟨d - 1, by omega⟩
  exact rfl
theorem c_Ca_pour {d : Nat} (hd : 1 ≤ d) (a0 : Nat) (x1 : Int) (x2 : Int) (x3 : Int) (x4 : Int) (x5 : Int) (S : Sp) (M : Mm) : callD d m_Ca_pour [vR 11 0 a0, vI x1, vI x2, vI x3, vI x4, vI x5] S M = Run (callD (d - 1)) tb_Ca_pour 0 [vR 11 0 a0, vI x1, vI x2, vI x3, vI x4, vI x5] [] S M := by
  obtain ⟨e, rfl⟩ : ∃ e, d = e + 1 := ⟨d - 1, by omega⟩
  exact rfl
theorem c_Trays_hasFrom {d : Nat} (hd : 1 ≤ d) (a0 : Nat) (x1 : Int) (x2 : Int) (x3 : Int) (S : Sp) (M : Mm) : callD d m_Trays_hasFrom [vR 7 0 a0, vI x1, vI x2, vI x3] S M = Run (callD (d - 1)) tb_Trays_hasFrom 0 [vR 7 0 a0, vI x1, vI x2, vI x3] [] S M := by
  obtain ⟨e, rfl⟩ : ∃ e, d = e + 1 := ⟨d - 1, by omega⟩
  exact rfl
theorem c_Ca_feed {d : Nat} (hd : 1 ≤ d) (a0 : Nat) (x1 : Int) (x2 : Int) (x3 : Int) (x4 : Int) (x5 : Int) (S : Sp) (M : Mm) : callD d m_Ca_feed [vR 11 0 a0, vI x1, vI x2, vI x3, vI x4, vI x5] S M = Run (callD (d - 1)) tb_Ca_feed 0 [vR 11 0 a0, vI x1, vI x2, vI x3, vI x4, vI x5] [] S M := by
  obtain ⟨e, rfl⟩ : ∃ e, d = e + 1 := ⟨d - 1, by omega⟩
  exact rfl
theorem c_Tape_append {d : Nat} (hd : 1 ≤ d) (a0 : Nat) (x1 : Int) (S : Sp) (M : Mm) : callD d m_Tape_append [vR 6 0 a0, vI x1] S M = Run (callD (d - 1)) tb_Tape_append 0 [vR 6 0 a0, vI x1, vU] [] S M := by
  obtain ⟨e, rfl⟩ : ∃ e, d = e + 1 := ⟨d - 1, by omega⟩
  exact rfl
theorem c_Ca_world {d : Nat} (hd : 1 ≤ d) (a0 : Nat) (x1 : Int) (S : Sp) (M : Mm) : callD d m_Ca_world [vR 11 0 a0, vI x1] S M = Run (callD (d - 1)) tb_Ca_world 0 [vR 11 0 a0, vI x1, vU] [] S M := by
  obtain ⟨e, rfl⟩ : ∃ e, d = e + 1 := ⟨d - 1, by omega⟩
  exact rfl
theorem c_Ca_refuse {d : Nat} (hd : 1 ≤ d) (a0 : Nat) (x1 : Int) (S : Sp) (M : Mm) : callD d m_Ca_refuse [vR 11 0 a0, vI x1] S M = Run (callD (d - 1)) tb_Ca_refuse 0 [vR 11 0 a0, vI x1] [] S M := by
  obtain ⟨e, rfl⟩ : ∃ e, d = e + 1 := ⟨d - 1, by omega⟩
  exact rfl
theorem c_Tape_begin {d : Nat} (hd : 1 ≤ d) (a0 : Nat) (x1 : Int) (S : Sp) (M : Mm) : callD d m_Tape_begin [vR 6 0 a0, vI x1] S M = Run (callD (d - 1)) tb_Tape_begin 0 [vR 6 0 a0, vI x1] [] S M := by
  obtain ⟨e, rfl⟩ : ∃ e, d = e + 1 := ⟨d - 1, by omega⟩
  exact rfl
theorem c_Tape_advance {d : Nat} (hd : 1 ≤ d) (a0 : Nat) (S : Sp) (M : Mm) : callD d m_Tape_advance [vR 6 0 a0] S M = Run (callD (d - 1)) tb_Tape_advance 0 [vR 6 0 a0] [] S M := by
  obtain ⟨e, rfl⟩ : ∃ e, d = e + 1 := ⟨d - 1, by omega⟩
  exact rfl
theorem c_Tape_scanWord {d : Nat} (hd : 1 ≤ d) (a0 : Nat) (S : Sp) (M : Mm) : callD d m_Tape_scanWord [vR 6 0 a0] S M = Run (callD (d - 1)) tb_Tape_scanWord 0 [vR 6 0 a0, vU] [] S M := by
  obtain ⟨e, rfl⟩ : ∃ e, d = e + 1 := ⟨d - 1, by omega⟩
  exact rfl
theorem c_Tape_scanNumber {d : Nat} (hd : 1 ≤ d) (a0 : Nat) (S : Sp) (M : Mm) : callD d m_Tape_scanNumber [vR 6 0 a0] S M = Run (callD (d - 1)) tb_Tape_scanNumber 0 [vR 6 0 a0] [] S M := by
  obtain ⟨e, rfl⟩ : ∃ e, d = e + 1 := ⟨d - 1, by omega⟩
  exact rfl
theorem c_Tape_scanSign {d : Nat} (hd : 1 ≤ d) (a0 : Nat) (S : Sp) (M : Mm) : callD d m_Tape_scanSign [vR 6 0 a0] S M = Run (callD (d - 1)) tb_Tape_scanSign 0 [vR 6 0 a0] [] S M := by
  obtain ⟨e, rfl⟩ : ∃ e, d = e + 1 := ⟨d - 1, by omega⟩
  exact rfl
theorem c_WorldText_takes {d : Nat} (hd : 1 ≤ d) (a0 : Nat) (a1 : Nat) (a2 : Nat) (S : Sp) (M : Mm) : callD d m_WorldText_takes [vR 10 0 a0, vR 6 0 a1, vR 5 0 a2] S M = Run (callD (d - 1)) tb_WorldText_takes 0 [vR 10 0 a0, vR 6 0 a1, vR 5 0 a2, vU] [] S M := by
  obtain ⟨e, rfl⟩ : ∃ e, d = e + 1 := ⟨d - 1, by omega⟩
  exact rfl
theorem c_State_clear {d : Nat} (hd : 1 ≤ d) (a0 : Nat) (S : Sp) (M : Mm) : callD d m_State_clear [vR 5 0 a0] S M = Run (callD (d - 1)) tb_State_clear 0 [vR 5 0 a0] [] S M := by
  obtain ⟨e, rfl⟩ : ∃ e, d = e + 1 := ⟨d - 1, by omega⟩
  exact rfl
theorem c_Chart_clear {d : Nat} (hd : 1 ≤ d) (a0 : Nat) (S : Sp) (M : Mm) : callD d m_Chart_clear [vR 0 0 a0] S M = Run (callD (d - 1)) tb_Chart_clear 0 [vR 0 0 a0, vU] [] S M := by
  obtain ⟨e, rfl⟩ : ∃ e, d = e + 1 := ⟨d - 1, by omega⟩
  exact rfl
theorem c_Plan_clear {d : Nat} (hd : 1 ≤ d) (a0 : Nat) (S : Sp) (M : Mm) : callD d m_Plan_clear [vR 3 0 a0] S M = Run (callD (d - 1)) tb_Plan_clear 0 [vR 3 0 a0] [] S M := by
  obtain ⟨e, rfl⟩ : ∃ e, d = e + 1 := ⟨d - 1, by omega⟩
  exact rfl
theorem c_WorldText_takesPart {d : Nat} (hd : 1 ≤ d) (a0 : Nat) (a1 : Nat) (a2 : Nat) (S : Sp) (M : Mm) : callD d m_WorldText_takesPart [vR 10 0 a0, vR 6 0 a1, vR 5 0 a2] S M = Run (callD (d - 1)) tb_WorldText_takesPart 0 [vR 10 0 a0, vR 6 0 a1, vR 5 0 a2] [] S M := by
  obtain ⟨e, rfl⟩ : ∃ e, d = e + 1 := ⟨d - 1, by omega⟩
  exact rfl
theorem c_WorldText_takesNation {d : Nat} (hd : 1 ≤ d) (a0 : Nat) (a1 : Nat) (S : Sp) (M : Mm) : callD d m_WorldText_takesNation [vR 6 0 a0, vR 0 0 a1] S M = Run (callD (d - 1)) tb_WorldText_takesNation 0 [vR 6 0 a0, vR 0 0 a1, vU] [] S M := by
  obtain ⟨e, rfl⟩ : ∃ e, d = e + 1 := ⟨d - 1, by omega⟩
  exact rfl
theorem c_Tape_takeNew {d : Nat} (hd : 1 ≤ d) (a0 : Nat) (a1 : Nat) (x2 : Int) (S : Sp) (M : Mm) : callD d m_Tape_takeNew [vR 6 0 a0, vR 0 0 a1, vI x2] S M = Run (callD (d - 1)) tb_Tape_takeNew 0 [vR 6 0 a0, vR 0 0 a1, vI x2, vU] [] S M := by
  obtain ⟨e, rfl⟩ : ∃ e, d = e + 1 := ⟨d - 1, by omega⟩
  exact rfl
theorem c_Chart_isFull {d : Nat} (hd : 1 ≤ d) (a0 : Nat) (x1 : Int) (S : Sp) (M : Mm) : callD d m_Chart_isFull [vR 0 0 a0, vI x1] S M = Run (callD (d - 1)) tb_Chart_isFull 0 [vR 0 0 a0, vI x1] [] S M := by
  obtain ⟨e, rfl⟩ : ∃ e, d = e + 1 := ⟨d - 1, by omega⟩
  exact rfl
theorem c_Chart_mostOf {d : Nat} (hd : 1 ≤ d) (x0 : Int) (S : Sp) (M : Mm) : callD d m_Chart_mostOf [vI x0] S M = Run (callD (d - 1)) tb_Chart_mostOf 0 [vI x0] [] S M := by
  obtain ⟨e, rfl⟩ : ∃ e, d = e + 1 := ⟨d - 1, by omega⟩
  exact rfl
theorem c_Tape_fails {d : Nat} (hd : 1 ≤ d) (a0 : Nat) (x1 : Int) (S : Sp) (M : Mm) : callD d m_Tape_fails [vR 6 0 a0, vI x1] S M = Run (callD (d - 1)) tb_Tape_fails 0 [vR 6 0 a0, vI x1] [] S M := by
  obtain ⟨e, rfl⟩ : ∃ e, d = e + 1 := ⟨d - 1, by omega⟩
  exact rfl
theorem c_Tape_isName {d : Nat} (hd : 1 ≤ d) (a0 : Nat) (S : Sp) (M : Mm) : callD d m_Tape_isName [vR 6 0 a0] S M = Run (callD (d - 1)) tb_Tape_isName 0 [vR 6 0 a0] [] S M := by
  obtain ⟨e, rfl⟩ : ∃ e, d = e + 1 := ⟨d - 1, by omega⟩
  exact rfl
theorem c_Tape_misfits {d : Nat} (hd : 1 ≤ d) (a0 : Nat) (S : Sp) (M : Mm) : callD d m_Tape_misfits [vR 6 0 a0] S M = Run (callD (d - 1)) tb_Tape_misfits 0 [vR 6 0 a0] [] S M := by
  obtain ⟨e, rfl⟩ : ∃ e, d = e + 1 := ⟨d - 1, by omega⟩
  exact rfl
theorem c_Chart_isTaken {d : Nat} (hd : 1 ≤ d) (a0 : Nat) (x1 : Int) (S : Sp) (M : Mm) : callD d m_Chart_isTaken [vR 0 0 a0, vL x1] S M = Run (callD (d - 1)) tb_Chart_isTaken 0 [vR 0 0 a0, vL x1, vU, vU] [] S M := by
  obtain ⟨e, rfl⟩ : ∃ e, d = e + 1 := ⟨d - 1, by omega⟩
  exact rfl
theorem c_Chart_find {d : Nat} (hd : 1 ≤ d) (a0 : Nat) (x1 : Int) (x2 : Int) (S : Sp) (M : Mm) : callD d m_Chart_find [vR 0 0 a0, vI x1, vL x2] S M = Run (callD (d - 1)) tb_Chart_find 0 [vR 0 0 a0, vI x1, vL x2, vU, vU] [] S M := by
  obtain ⟨e, rfl⟩ : ∃ e, d = e + 1 := ⟨d - 1, by omega⟩
  exact rfl
theorem c_Chart_enter {d : Nat} (hd : 1 ≤ d) (a0 : Nat) (x1 : Int) (x2 : Int) (S : Sp) (M : Mm) : callD d m_Chart_enter [vR 0 0 a0, vI x1, vL x2] S M = Run (callD (d - 1)) tb_Chart_enter 0 [vR 0 0 a0, vI x1, vL x2, vU, vU] [] S M := by
  obtain ⟨e, rfl⟩ : ∃ e, d = e + 1 := ⟨d - 1, by omega⟩
  exact rfl
theorem c_Tape_takeOption {d : Nat} (hd : 1 ≤ d) (a0 : Nat) (x1 : Int) (x2 : Int) (x3 : Int) (x4 : Int) (S : Sp) (M : Mm) : callD d m_Tape_takeOption [vR 6 0 a0, vI x1, vI x2, vI x3, vI x4] S M = Run (callD (d - 1)) tb_Tape_takeOption 0 [vR 6 0 a0, vI x1, vI x2, vI x3, vI x4] [] S M := by
  obtain ⟨e, rfl⟩ : ∃ e, d = e + 1 := ⟨d - 1, by omega⟩
  exact rfl
theorem c_Tape_takeNumber {d : Nat} (hd : 1 ≤ d) (a0 : Nat) (x1 : Int) (x2 : Int) (S : Sp) (M : Mm) : callD d m_Tape_takeNumber [vR 6 0 a0, vI x1, vI x2] S M = Run (callD (d - 1)) tb_Tape_takeNumber 0 [vR 6 0 a0, vI x1, vI x2, vU] [] S M := by
  obtain ⟨e, rfl⟩ : ∃ e, d = e + 1 := ⟨d - 1, by omega⟩
  exact rfl
theorem c_Tape_takesStop {d : Nat} (hd : 1 ≤ d) (a0 : Nat) (S : Sp) (M : Mm) : callD d m_Tape_takesStop [vR 6 0 a0] S M = Run (callD (d - 1)) tb_Tape_takesStop 0 [vR 6 0 a0] [] S M := by
  obtain ⟨e, rfl⟩ : ∃ e, d = e + 1 := ⟨d - 1, by omega⟩
  exact rfl
theorem c_Tape_isSign {d : Nat} (hd : 1 ≤ d) (a0 : Nat) (x1 : Int) (S : Sp) (M : Mm) : callD d m_Tape_isSign [vR 6 0 a0, vI x1] S M = Run (callD (d - 1)) tb_Tape_isSign 0 [vR 6 0 a0, vI x1] [] S M := by
  obtain ⟨e, rfl⟩ : ∃ e, d = e + 1 := ⟨d - 1, by omega⟩
  exact rfl
theorem c_WorldText_takesWar {d : Nat} (hd : 1 ≤ d) (a0 : Nat) (a1 : Nat) (S : Sp) (M : Mm) : callD d m_WorldText_takesWar [vR 6 0 a0, vR 0 0 a1] S M = Run (callD (d - 1)) tb_WorldText_takesWar 0 [vR 6 0 a0, vR 0 0 a1, vU, vU] [] S M := by
  obtain ⟨e, rfl⟩ : ∃ e, d = e + 1 := ⟨d - 1, by omega⟩
  exact rfl
theorem c_Tape_takeThing {d : Nat} (hd : 1 ≤ d) (a0 : Nat) (a1 : Nat) (x2 : Int) (x3 : Int) (S : Sp) (M : Mm) : callD d m_Tape_takeThing [vR 6 0 a0, vR 0 0 a1, vI x2, vI x3] S M = Run (callD (d - 1)) tb_Tape_takeThing 0 [vR 6 0 a0, vR 0 0 a1, vI x2, vI x3, vU] [] S M := by
  obtain ⟨e, rfl⟩ : ∃ e, d = e + 1 := ⟨d - 1, by omega⟩
  exact rfl
theorem c_Chart_setWar {d : Nat} (hd : 1 ≤ d) (a0 : Nat) (x1 : Int) (x2 : Int) (x3 : Int) (S : Sp) (M : Mm) : callD d m_Chart_setWar [vR 0 0 a0, vI x1, vI x2, vI x3] S M = Run (callD (d - 1)) tb_Chart_setWar 0 [vR 0 0 a0, vI x1, vI x2, vI x3] [] S M := by
  obtain ⟨e, rfl⟩ : ∃ e, d = e + 1 := ⟨d - 1, by omega⟩
  exact rfl
theorem c_WorldText_takesGood {d : Nat} (hd : 1 ≤ d) (a0 : Nat) (a1 : Nat) (S : Sp) (M : Mm) : callD d m_WorldText_takesGood [vR 6 0 a0, vR 0 0 a1] S M = Run (callD (d - 1)) tb_WorldText_takesGood 0 [vR 6 0 a0, vR 0 0 a1, vU] [] S M := by
  obtain ⟨e, rfl⟩ : ∃ e, d = e + 1 := ⟨d - 1, by omega⟩
  exact rfl
theorem c_Tape_takesWord {d : Nat} (hd : 1 ≤ d) (a0 : Nat) (x1 : Int) (S : Sp) (M : Mm) : callD d m_Tape_takesWord [vR 6 0 a0, vI x1] S M = Run (callD (d - 1)) tb_Tape_takesWord 0 [vR 6 0 a0, vI x1] [] S M := by
  obtain ⟨e, rfl⟩ : ∃ e, d = e + 1 := ⟨d - 1, by omega⟩
  exact rfl
theorem c_WorldText_takesPort {d : Nat} (hd : 1 ≤ d) (a0 : Nat) (a1 : Nat) (S : Sp) (M : Mm) : callD d m_WorldText_takesPort [vR 6 0 a0, vR 0 0 a1] S M = Run (callD (d - 1)) tb_WorldText_takesPort 0 [vR 6 0 a0, vR 0 0 a1, vU] [] S M := by
  obtain ⟨e, rfl⟩ : ∃ e, d = e + 1 := ⟨d - 1, by omega⟩
  exact rfl
theorem c_WorldText_takesPrice {d : Nat} (hd : 1 ≤ d) (a0 : Nat) (a1 : Nat) (S : Sp) (M : Mm) : callD d m_WorldText_takesPrice [vR 6 0 a0, vR 0 0 a1] S M = Run (callD (d - 1)) tb_WorldText_takesPrice 0 [vR 6 0 a0, vR 0 0 a1, vU, vU, vU] [] S M := by
  obtain ⟨e, rfl⟩ : ∃ e, d = e + 1 := ⟨d - 1, by omega⟩
  exact rfl
theorem c_WorldText_takesWay {d : Nat} (hd : 1 ≤ d) (a0 : Nat) (a1 : Nat) (S : Sp) (M : Mm) : callD d m_WorldText_takesWay [vR 6 0 a0, vR 0 0 a1] S M = Run (callD (d - 1)) tb_WorldText_takesWay 0 [vR 6 0 a0, vR 0 0 a1, vU, vU, vU] [] S M := by
  obtain ⟨e, rfl⟩ : ∃ e, d = e + 1 := ⟨d - 1, by omega⟩
  exact rfl
theorem c_WorldText_takesShip {d : Nat} (hd : 1 ≤ d) (a0 : Nat) (a1 : Nat) (S : Sp) (M : Mm) : callD d m_WorldText_takesShip [vR 6 0 a0, vR 5 0 a1] S M = Run (callD (d - 1)) tb_WorldText_takesShip 0 [vR 6 0 a0, vR 5 0 a1, vU, vU, vU, vU] [] S M := by
  obtain ⟨e, rfl⟩ : ∃ e, d = e + 1 := ⟨d - 1, by omega⟩
  exact rfl
theorem c_Vessel_launch {d : Nat} (hd : 1 ≤ d) (a0 : Nat) (x1 : Int) (x2 : Int) (x3 : Int) (S : Sp) (M : Mm) : callD d m_Vessel_launch [vR 8 0 a0, vI x1, vI x2, vI x3] S M = Run (callD (d - 1)) tb_Vessel_launch 0 [vR 8 0 a0, vI x1, vI x2, vI x3] [] S M := by
  obtain ⟨e, rfl⟩ : ∃ e, d = e + 1 := ⟨d - 1, by omega⟩
  exact rfl
theorem c_WorldText_takesAboard {d : Nat} (hd : 1 ≤ d) (a0 : Nat) (a1 : Nat) (S : Sp) (M : Mm) : callD d m_WorldText_takesAboard [vR 6 0 a0, vR 5 0 a1] S M = Run (callD (d - 1)) tb_WorldText_takesAboard 0 [vR 6 0 a0, vR 5 0 a1, vU, vU, vU] [] S M := by
  obtain ⟨e, rfl⟩ : ∃ e, d = e + 1 := ⟨d - 1, by omega⟩
  exact rfl
theorem c_Vessel_room {d : Nat} (hd : 1 ≤ d) (a0 : Nat) (S : Sp) (M : Mm) : callD d m_Vessel_room [vR 8 0 a0] S M = Run (callD (d - 1)) tb_Vessel_room 0 [vR 8 0 a0] [] S M := by
  obtain ⟨e, rfl⟩ : ∃ e, d = e + 1 := ⟨d - 1, by omega⟩
  exact rfl
theorem c_Vessel_load {d : Nat} (hd : 1 ≤ d) (a0 : Nat) (S : Sp) (M : Mm) : callD d m_Vessel_load [vR 8 0 a0] S M = Run (callD (d - 1)) tb_Vessel_load 0 [vR 8 0 a0, vU, vU] [] S M := by
  obtain ⟨e, rfl⟩ : ∃ e, d = e + 1 := ⟨d - 1, by omega⟩
  exact rfl
theorem c_WorldText_takesRule {d : Nat} (hd : 1 ≤ d) (a0 : Nat) (a1 : Nat) (a2 : Nat) (S : Sp) (M : Mm) : callD d m_WorldText_takesRule [vR 10 0 a0, vR 6 0 a1, vR 0 0 a2] S M = Run (callD (d - 1)) tb_WorldText_takesRule 0 [vR 10 0 a0, vR 6 0 a1, vR 0 0 a2, vU] [] S M := by
  obtain ⟨e, rfl⟩ : ∃ e, d = e + 1 := ⟨d - 1, by omega⟩
  exact rfl
theorem c_Ca_noteFault {d : Nat} (hd : 1 ≤ d) (a0 : Nat) (S : Sp) (M : Mm) : callD d m_Ca_noteFault [vR 11 0 a0] S M = Run (callD (d - 1)) tb_Ca_noteFault 0 [vR 11 0 a0] [] S M := by
  obtain ⟨e, rfl⟩ : ∃ e, d = e + 1 := ⟨d - 1, by omega⟩
  exact rfl
theorem c_State_copyFrom {d : Nat} (hd : 1 ≤ d) (a0 : Nat) (a1 : Nat) (S : Sp) (M : Mm) : callD d m_State_copyFrom [vR 5 0 a0, vR 5 0 a1] S M = Run (callD (d - 1)) tb_State_copyFrom 0 [vR 5 0 a0, vR 5 0 a1] [] S M := by
  obtain ⟨e, rfl⟩ : ∃ e, d = e + 1 := ⟨d - 1, by omega⟩
  exact rfl
theorem c_Chart_copyFrom {d : Nat} (hd : 1 ≤ d) (a0 : Nat) (a1 : Nat) (S : Sp) (M : Mm) : callD d m_Chart_copyFrom [vR 0 0 a0, vR 0 0 a1] S M = Run (callD (d - 1)) tb_Chart_copyFrom 0 [vR 0 0 a0, vR 0 0 a1, vU] [] S M := by
  obtain ⟨e, rfl⟩ : ∃ e, d = e + 1 := ⟨d - 1, by omega⟩
  exact rfl
theorem c_Plan_copyFrom {d : Nat} (hd : 1 ≤ d) (a0 : Nat) (a1 : Nat) (S : Sp) (M : Mm) : callD d m_Plan_copyFrom [vR 3 0 a0, vR 3 0 a1] S M = Run (callD (d - 1)) tb_Plan_copyFrom 0 [vR 3 0 a0, vR 3 0 a1] [] S M := by
  obtain ⟨e, rfl⟩ : ∃ e, d = e + 1 := ⟨d - 1, by omega⟩
  exact rfl
theorem c_State_copyFleet {d : Nat} (hd : 1 ≤ d) (a0 : Nat) (a1 : Nat) (S : Sp) (M : Mm) : callD d m_State_copyFleet [vR 5 0 a0, vR 5 0 a1] S M = Run (callD (d - 1)) tb_State_copyFleet 0 [vR 5 0 a0, vR 5 0 a1, vU] [] S M := by
  obtain ⟨e, rfl⟩ : ∃ e, d = e + 1 := ⟨d - 1, by omega⟩
  exact rfl
theorem c_Vessel_copyFrom {d : Nat} (hd : 1 ≤ d) (a0 : Nat) (a1 : Nat) (S : Sp) (M : Mm) : callD d m_Vessel_copyFrom [vR 8 0 a0, vR 8 0 a1] S M = Run (callD (d - 1)) tb_Vessel_copyFrom 0 [vR 8 0 a0, vR 8 0 a1] [] S M := by
  obtain ⟨e, rfl⟩ : ∃ e, d = e + 1 := ⟨d - 1, by omega⟩
  exact rfl
theorem c_Ca_answer {d : Nat} (hd : 1 ≤ d) (a0 : Nat) (x1 : Int) (S : Sp) (M : Mm) : callD d m_Ca_answer [vR 11 0 a0, vI x1] S M = Run (callD (d - 1)) tb_Ca_answer 0 [vR 11 0 a0, vI x1] [] S M := by
  obtain ⟨e, rfl⟩ : ∃ e, d = e + 1 := ⟨d - 1, by omega⟩
  exact rfl
theorem c_Ca_voyages {d : Nat} (hd : 1 ≤ d) (a0 : Nat) (x1 : Int) (S : Sp) (M : Mm) : callD d m_Ca_voyages [vR 11 0 a0, vI x1] S M = Run (callD (d - 1)) tb_Ca_voyages 0 [vR 11 0 a0, vI x1, vU] [] S M := by
  obtain ⟨e, rfl⟩ : ∃ e, d = e + 1 := ⟨d - 1, by omega⟩
  exact rfl
theorem c_VoyageText_takes {d : Nat} (hd : 1 ≤ d) (a0 : Nat) (a1 : Nat) (a2 : Nat) (a3 : Nat) (S : Sp) (M : Mm) : callD d m_VoyageText_takes [vR 9 0 a0, vR 6 0 a1, vR 0 0 a2, vR 3 0 a3] S M = Run (callD (d - 1)) tb_VoyageText_takes 0 [vR 9 0 a0, vR 6 0 a1, vR 0 0 a2, vR 3 0 a3, vU, vU, vU] [] S M := by
  obtain ⟨e, rfl⟩ : ∃ e, d = e + 1 := ⟨d - 1, by omega⟩
  exact rfl
theorem c_VoyageText_takesEnd {d : Nat} (hd : 1 ≤ d) (a0 : Nat) (a1 : Nat) (a2 : Nat) (S : Sp) (M : Mm) : callD d m_VoyageText_takesEnd [vR 9 0 a0, vR 6 0 a1, vR 3 0 a2] S M = Run (callD (d - 1)) tb_VoyageText_takesEnd 0 [vR 9 0 a0, vR 6 0 a1, vR 3 0 a2] [] S M := by
  obtain ⟨e, rfl⟩ : ∃ e, d = e + 1 := ⟨d - 1, by omega⟩
  exact rfl
theorem c_Plan_addEnd {d : Nat} (hd : 1 ≤ d) (a0 : Nat) (x1 : Int) (S : Sp) (M : Mm) : callD d m_Plan_addEnd [vR 3 0 a0, vI x1] S M = Run (callD (d - 1)) tb_Plan_addEnd 0 [vR 3 0 a0, vI x1] [] S M := by
  obtain ⟨e, rfl⟩ : ∃ e, d = e + 1 := ⟨d - 1, by omega⟩
  exact rfl
theorem c_VoyageText_mayBegin {d : Nat} (hd : 1 ≤ d) (a0 : Nat) (a1 : Nat) (a2 : Nat) (S : Sp) (M : Mm) : callD d m_VoyageText_mayBegin [vR 9 0 a0, vR 6 0 a1, vR 3 0 a2] S M = Run (callD (d - 1)) tb_VoyageText_mayBegin 0 [vR 9 0 a0, vR 6 0 a1, vR 3 0 a2] [] S M := by
  obtain ⟨e, rfl⟩ : ∃ e, d = e + 1 := ⟨d - 1, by omega⟩
  exact rfl
theorem c_VoyageText_isBlock {d : Nat} (hd : 1 ≤ d) (x0 : Int) (S : Sp) (M : Mm) : callD d m_VoyageText_isBlock [vI x0] S M = Run (callD (d - 1)) tb_VoyageText_isBlock 0 [vI x0] [] S M := by
  obtain ⟨e, rfl⟩ : ∃ e, d = e + 1 := ⟨d - 1, by omega⟩
  exact rfl
theorem c_VoyageText_takesStep {d : Nat} (hd : 1 ≤ d) (a0 : Nat) (a1 : Nat) (a2 : Nat) (x3 : Int) (S : Sp) (M : Mm) : callD d m_VoyageText_takesStep [vR 6 0 a0, vR 0 0 a1, vR 3 0 a2, vI x3] S M = Run (callD (d - 1)) tb_VoyageText_takesStep 0 [vR 6 0 a0, vR 0 0 a1, vR 3 0 a2, vI x3] [] S M := by
  obtain ⟨e, rfl⟩ : ∃ e, d = e + 1 := ⟨d - 1, by omega⟩
  exact rfl
theorem c_VoyageText_takesCount {d : Nat} (hd : 1 ≤ d) (a0 : Nat) (a1 : Nat) (x2 : Int) (x3 : Int) (S : Sp) (M : Mm) : callD d m_VoyageText_takesCount [vR 6 0 a0, vR 3 0 a1, vI x2, vI x3] S M = Run (callD (d - 1)) tb_VoyageText_takesCount 0 [vR 6 0 a0, vR 3 0 a1, vI x2, vI x3, vU] [] S M := by
  obtain ⟨e, rfl⟩ : ∃ e, d = e + 1 := ⟨d - 1, by omega⟩
  exact rfl
theorem c_Plan_addStep {d : Nat} (hd : 1 ≤ d) (a0 : Nat) (x1 : Int) (x2 : Int) (x3 : Int) (x4 : Int) (S : Sp) (M : Mm) : callD d m_Plan_addStep [vR 3 0 a0, vI x1, vI x2, vI x3, vI x4] S M = Run (callD (d - 1)) tb_Plan_addStep 0 [vR 3 0 a0, vI x1, vI x2, vI x3, vI x4, vU] [] S M := by
  obtain ⟨e, rfl⟩ : ∃ e, d = e + 1 := ⟨d - 1, by omega⟩
  exact rfl
theorem c_VoyageText_takesLading {d : Nat} (hd : 1 ≤ d) (a0 : Nat) (a1 : Nat) (a2 : Nat) (x3 : Int) (S : Sp) (M : Mm) : callD d m_VoyageText_takesLading [vR 6 0 a0, vR 0 0 a1, vR 3 0 a2, vI x3] S M = Run (callD (d - 1)) tb_VoyageText_takesLading 0 [vR 6 0 a0, vR 0 0 a1, vR 3 0 a2, vI x3, vU, vU, vU] [] S M := by
  obtain ⟨e, rfl⟩ : ∃ e, d = e + 1 := ⟨d - 1, by omega⟩
  exact rfl
theorem c_VoyageText_takesPair {d : Nat} (hd : 1 ≤ d) (a0 : Nat) (a1 : Nat) (a2 : Nat) (x3 : Int) (x4 : Int) (S : Sp) (M : Mm) : callD d m_VoyageText_takesPair [vR 6 0 a0, vR 0 0 a1, vR 3 0 a2, vI x3, vI x4] S M = Run (callD (d - 1)) tb_VoyageText_takesPair 0 [vR 6 0 a0, vR 0 0 a1, vR 3 0 a2, vI x3, vI x4, vU, vU] [] S M := by
  obtain ⟨e, rfl⟩ : ∃ e, d = e + 1 := ⟨d - 1, by omega⟩
  exact rfl
theorem c_VoyageText_takesAny {d : Nat} (hd : 1 ≤ d) (a0 : Nat) (a1 : Nat) (a2 : Nat) (S : Sp) (M : Mm) : callD d m_VoyageText_takesAny [vR 6 0 a0, vR 0 0 a1, vR 3 0 a2] S M = Run (callD (d - 1)) tb_VoyageText_takesAny 0 [vR 6 0 a0, vR 0 0 a1, vR 3 0 a2, vU] [] S M := by
  obtain ⟨e, rfl⟩ : ∃ e, d = e + 1 := ⟨d - 1, by omega⟩
  exact rfl
theorem c_VoyageText_takesTest {d : Nat} (hd : 1 ≤ d) (a0 : Nat) (a1 : Nat) (a2 : Nat) (S : Sp) (M : Mm) : callD d m_VoyageText_takesTest [vR 6 0 a0, vR 0 0 a1, vR 3 0 a2] S M = Run (callD (d - 1)) tb_VoyageText_takesTest 0 [vR 6 0 a0, vR 0 0 a1, vR 3 0 a2, vU] [] S M := by
  obtain ⟨e, rfl⟩ : ∃ e, d = e + 1 := ⟨d - 1, by omega⟩
  exact rfl
theorem c_VoyageText_takesCoins {d : Nat} (hd : 1 ≤ d) (a0 : Nat) (a1 : Nat) (a2 : Nat) (S : Sp) (M : Mm) : callD d m_VoyageText_takesCoins [vR 6 0 a0, vR 0 0 a1, vR 3 0 a2] S M = Run (callD (d - 1)) tb_VoyageText_takesCoins 0 [vR 6 0 a0, vR 0 0 a1, vR 3 0 a2, vU, vU, vU] [] S M := by
  obtain ⟨e, rfl⟩ : ∃ e, d = e + 1 := ⟨d - 1, by omega⟩
  exact rfl
theorem c_VoyageText_takesNothing {d : Nat} (hd : 1 ≤ d) (a0 : Nat) (S : Sp) (M : Mm) : callD d m_VoyageText_takesNothing [vR 3 0 a0] S M = Run (callD (d - 1)) tb_VoyageText_takesNothing 0 [vR 3 0 a0] [] S M := by
  obtain ⟨e, rfl⟩ : ∃ e, d = e + 1 := ⟨d - 1, by omega⟩
  exact rfl
theorem c_Ca_fault {d : Nat} (hd : 1 ≤ d) (a0 : Nat) (x1 : Int) (S : Sp) (M : Mm) : callD d m_Ca_fault [vR 11 0 a0, vI x1] S M = Run (callD (d - 1)) tb_Ca_fault 0 [vR 11 0 a0, vI x1] [] S M := by
  obtain ⟨e, rfl⟩ : ∃ e, d = e + 1 := ⟨d - 1, by omega⟩
  exact rfl
theorem c_Ca_told {d : Nat} (hd : 1 ≤ d) (a0 : Nat) (x1 : Int) (S : Sp) (M : Mm) : callD d m_Ca_told [vR 11 0 a0, vI x1] S M = Run (callD (d - 1)) tb_Ca_told 0 [vR 11 0 a0, vI x1] [] S M := by
  obtain ⟨e, rfl⟩ : ∃ e, d = e + 1 := ⟨d - 1, by omega⟩
  exact rfl
theorem c_State_atSea {d : Nat} (hd : 1 ≤ d) (a0 : Nat) (S : Sp) (M : Mm) : callD d m_State_atSea [vR 5 0 a0] S M = Run (callD (d - 1)) tb_State_atSea 0 [vR 5 0 a0, vU, vU] [] S M := by
  obtain ⟨e, rfl⟩ : ∃ e, d = e + 1 := ⟨d - 1, by omega⟩
  exact rfl
theorem c_State_lawless {d : Nat} (hd : 1 ≤ d) (a0 : Nat) (S : Sp) (M : Mm) : callD d m_State_lawless [vR 5 0 a0] S M = Run (callD (d - 1)) tb_State_lawless 0 [vR 5 0 a0, vU, vU] [] S M := by
  obtain ⟨e, rfl⟩ : ∃ e, d = e + 1 := ⟨d - 1, by omega⟩
  exact rfl
theorem c_Chart_ruler {d : Nat} (hd : 1 ≤ d) (a0 : Nat) (a1 : Nat) (x2 : Int) (S : Sp) (M : Mm) : callD d m_Chart_ruler [vR 0 0 a0, vR 20 8 a1, vI x2] S M = Run (callD (d - 1)) tb_Chart_ruler 0 [vR 0 0 a0, vR 20 8 a1, vI x2, vU, vU, vU] [] S M := by
  obtain ⟨e, rfl⟩ : ∃ e, d = e + 1 := ⟨d - 1, by omega⟩
  exact rfl
theorem c_Chart_weigh {d : Nat} (hd : 1 ≤ d) (a0 : Nat) (a1 : Nat) (x2 : Int) (S : Sp) (M : Mm) : callD d m_Chart_weigh [vR 0 0 a0, vR 20 8 a1, vI x2] S M = Run (callD (d - 1)) tb_Chart_weigh 0 [vR 0 0 a0, vR 20 8 a1, vI x2, vU] [] S M := by
  obtain ⟨e, rfl⟩ : ∃ e, d = e + 1 := ⟨d - 1, by omega⟩
  exact rfl
theorem c_State_allTons {d : Nat} (hd : 1 ≤ d) (a0 : Nat) (S : Sp) (M : Mm) : callD d m_State_allTons [vR 5 0 a0] S M = Run (callD (d - 1)) tb_State_allTons 0 [vR 5 0 a0, vU, vU] [] S M := by
  obtain ⟨e, rfl⟩ : ∃ e, d = e + 1 := ⟨d - 1, by omega⟩
  exact rfl
theorem c_State_allCoins {d : Nat} (hd : 1 ≤ d) (a0 : Nat) (S : Sp) (M : Mm) : callD d m_State_allCoins [vR 5 0 a0] S M = Run (callD (d - 1)) tb_State_allCoins 0 [vR 5 0 a0, vU, vU] [] S M := by
  obtain ⟨e, rfl⟩ : ∃ e, d = e + 1 := ⟨d - 1, by omega⟩
  exact rfl
theorem c_Ca_nation {d : Nat} (hd : 1 ≤ d) (a0 : Nat) (x1 : Int) (x2 : Int) (S : Sp) (M : Mm) : callD d m_Ca_nation [vR 11 0 a0, vI x1, vI x2] S M = Run (callD (d - 1)) tb_Ca_nation 0 [vR 11 0 a0, vI x1, vI x2] [] S M := by
  obtain ⟨e, rfl⟩ : ∃ e, d = e + 1 := ⟨d - 1, by omega⟩
  exact rfl
theorem c_Ca_isNation {d : Nat} (hd : 1 ≤ d) (a0 : Nat) (x1 : Int) (S : Sp) (M : Mm) : callD d m_Ca_isNation [vR 11 0 a0, vI x1] S M = Run (callD (d - 1)) tb_Ca_isNation 0 [vR 11 0 a0, vI x1] [] S M := by
  obtain ⟨e, rfl⟩ : ∃ e, d = e + 1 := ⟨d - 1, by omega⟩
  exact rfl
theorem c_Ca_good {d : Nat} (hd : 1 ≤ d) (a0 : Nat) (x1 : Int) (x2 : Int) (S : Sp) (M : Mm) : callD d m_Ca_good [vR 11 0 a0, vI x1, vI x2] S M = Run (callD (d - 1)) tb_Ca_good 0 [vR 11 0 a0, vI x1, vI x2] [] S M := by
  obtain ⟨e, rfl⟩ : ∃ e, d = e + 1 := ⟨d - 1, by omega⟩
  exact rfl
theorem c_Ca_isGood {d : Nat} (hd : 1 ≤ d) (a0 : Nat) (x1 : Int) (S : Sp) (M : Mm) : callD d m_Ca_isGood [vR 11 0 a0, vI x1] S M = Run (callD (d - 1)) tb_Ca_isGood 0 [vR 11 0 a0, vI x1] [] S M := by
  obtain ⟨e, rfl⟩ : ∃ e, d = e + 1 := ⟨d - 1, by omega⟩
  exact rfl
theorem c_Ca_portOf {d : Nat} (hd : 1 ≤ d) (a0 : Nat) (x1 : Int) (S : Sp) (M : Mm) : callD d m_Ca_portOf [vR 11 0 a0, vI x1] S M = Run (callD (d - 1)) tb_Ca_portOf 0 [vR 11 0 a0, vI x1] [] S M := by
  obtain ⟨e, rfl⟩ : ∃ e, d = e + 1 := ⟨d - 1, by omega⟩
  exact rfl
theorem c_Ca_isPort {d : Nat} (hd : 1 ≤ d) (a0 : Nat) (x1 : Int) (S : Sp) (M : Mm) : callD d m_Ca_isPort [vR 11 0 a0, vI x1] S M = Run (callD (d - 1)) tb_Ca_isPort 0 [vR 11 0 a0, vI x1] [] S M := by
  obtain ⟨e, rfl⟩ : ∃ e, d = e + 1 := ⟨d - 1, by omega⟩
  exact rfl
theorem c_Ca_answerOr {d : Nat} (hd : 1 ≤ d) (a0 : Nat) (x1 : Int) (x2 : Int) (S : Sp) (M : Mm) : callD d m_Ca_answerOr [vR 11 0 a0, vI x1, vI x2] S M = Run (callD (d - 1)) tb_Ca_answerOr 0 [vR 11 0 a0, vI x1, vI x2] [] S M := by
  obtain ⟨e, rfl⟩ : ∃ e, d = e + 1 := ⟨d - 1, by omega⟩
  exact rfl
theorem c_Ca_price {d : Nat} (hd : 1 ≤ d) (a0 : Nat) (x1 : Int) (x2 : Int) (S : Sp) (M : Mm) : callD d m_Ca_price [vR 11 0 a0, vI x1, vI x2] S M = Run (callD (d - 1)) tb_Ca_price 0 [vR 11 0 a0, vI x1, vI x2, vU] [] S M := by
  obtain ⟨e, rfl⟩ : ∃ e, d = e + 1 := ⟨d - 1, by omega⟩
  exact rfl
theorem c_Ca_way {d : Nat} (hd : 1 ≤ d) (a0 : Nat) (x1 : Int) (x2 : Int) (S : Sp) (M : Mm) : callD d m_Ca_way [vR 11 0 a0, vI x1, vI x2] S M = Run (callD (d - 1)) tb_Ca_way 0 [vR 11 0 a0, vI x1, vI x2, vU] [] S M := by
  obtain ⟨e, rfl⟩ : ∃ e, d = e + 1 := ⟨d - 1, by omega⟩
  exact rfl
theorem c_Ca_areTwo {d : Nat} (hd : 1 ≤ d) (a0 : Nat) (x1 : Int) (x2 : Int) (x3 : Int) (S : Sp) (M : Mm) : callD d m_Ca_areTwo [vR 11 0 a0, vI x1, vI x2, vI x3] S M = Run (callD (d - 1)) tb_Ca_areTwo 0 [vR 11 0 a0, vI x1, vI x2, vI x3, vU] [] S M := by
  obtain ⟨e, rfl⟩ : ∃ e, d = e + 1 := ⟨d - 1, by omega⟩
  exact rfl
theorem c_Ca_ship {d : Nat} (hd : 1 ≤ d) (a0 : Nat) (x1 : Int) (x2 : Int) (S : Sp) (M : Mm) : callD d m_Ca_ship [vR 11 0 a0, vI x1, vI x2] S M = Run (callD (d - 1)) tb_Ca_ship 0 [vR 11 0 a0, vI x1, vI x2, vU] [] S M := by
  obtain ⟨e, rfl⟩ : ∃ e, d = e + 1 := ⟨d - 1, by omega⟩
  exact rfl
theorem c_Ca_isShip {d : Nat} (hd : 1 ≤ d) (a0 : Nat) (x1 : Int) (S : Sp) (M : Mm) : callD d m_Ca_isShip [vR 11 0 a0, vI x1] S M = Run (callD (d - 1)) tb_Ca_isShip 0 [vR 11 0 a0, vI x1] [] S M := by
  obtain ⟨e, rfl⟩ : ∃ e, d = e + 1 := ⟨d - 1, by omega⟩
  exact rfl
theorem c_Ca_aboard {d : Nat} (hd : 1 ≤ d) (a0 : Nat) (x1 : Int) (x2 : Int) (S : Sp) (M : Mm) : callD d m_Ca_aboard [vR 11 0 a0, vI x1, vI x2] S M = Run (callD (d - 1)) tb_Ca_aboard 0 [vR 11 0 a0, vI x1, vI x2] [] S M := by
  obtain ⟨e, rfl⟩ : ∃ e, d = e + 1 := ⟨d - 1, by omega⟩
  exact rfl
theorem c_Ca_weight {d : Nat} (hd : 1 ≤ d) (a0 : Nat) (x1 : Int) (x2 : Int) (S : Sp) (M : Mm) : callD d m_Ca_weight [vR 11 0 a0, vI x1, vI x2] S M = Run (callD (d - 1)) tb_Ca_weight 0 [vR 11 0 a0, vI x1, vI x2] [] S M := by
  obtain ⟨e, rfl⟩ : ∃ e, d = e + 1 := ⟨d - 1, by omega⟩
  exact rfl
theorem c_Ca_weightBy {d : Nat} (hd : 1 ≤ d) (a0 : Nat) (x1 : Int) (x2 : Int) (x3 : Int) (S : Sp) (M : Mm) : callD d m_Ca_weightBy [vR 11 0 a0, vI x1, vI x2, vI x3] S M = Run (callD (d - 1)) tb_Ca_weightBy 0 [vR 11 0 a0, vI x1, vI x2, vI x3] [] S M := by
  obtain ⟨e, rfl⟩ : ∃ e, d = e + 1 := ⟨d - 1, by omega⟩
  exact rfl
theorem c_Chart_heft {d : Nat} (hd : 1 ≤ d) (a0 : Nat) (a1 : Nat) (x2 : Int) (x3 : Int) (S : Sp) (M : Mm) : callD d m_Chart_heft [vR 0 0 a0, vR 20 8 a1, vI x2, vI x3] S M = Run (callD (d - 1)) tb_Chart_heft 0 [vR 0 0 a0, vR 20 8 a1, vI x2, vI x3] [] S M := by
  obtain ⟨e, rfl⟩ : ∃ e, d = e + 1 := ⟨d - 1, by omega⟩
  exact rfl
theorem c_Ca_captains {d : Nat} (hd : 1 ≤ d) (a0 : Nat) (x1 : Int) (S : Sp) (M : Mm) : callD d m_Ca_captains [vR 11 0 a0, vI x1] S M = Run (callD (d - 1)) tb_Ca_captains 0 [vR 11 0 a0, vI x1] [] S M := by
  obtain ⟨e, rfl⟩ : ∃ e, d = e + 1 := ⟨d - 1, by omega⟩
  exact rfl
theorem c_Ca_captainsOf {d : Nat} (hd : 1 ≤ d) (a0 : Nat) (x1 : Int) (S : Sp) (M : Mm) : callD d m_Ca_captainsOf [vR 11 0 a0, vI x1] S M = Run (callD (d - 1)) tb_Ca_captainsOf 0 [vR 11 0 a0, vI x1] [] S M := by
  obtain ⟨e, rfl⟩ : ∃ e, d = e + 1 := ⟨d - 1, by omega⟩
  exact rfl
theorem c_Chart_captainSet {d : Nat} (hd : 1 ≤ d) (a0 : Nat) (a1 : Nat) (x2 : Int) (S : Sp) (M : Mm) : callD d m_Chart_captainSet [vR 0 0 a0, vR 20 8 a1, vI x2] S M = Run (callD (d - 1)) tb_Chart_captainSet 0 [vR 0 0 a0, vR 20 8 a1, vI x2, vU, vU, vU] [] S M := by
  obtain ⟨e, rfl⟩ : ∃ e, d = e + 1 := ⟨d - 1, by omega⟩
  exact rfl
theorem c_Ca_ruled {d : Nat} (hd : 1 ≤ d) (a0 : Nat) (x1 : Int) (S : Sp) (M : Mm) : callD d m_Ca_ruled [vR 11 0 a0, vI x1] S M = Run (callD (d - 1)) tb_Ca_ruled 0 [vR 11 0 a0, vI x1] [] S M := by
  obtain ⟨e, rfl⟩ : ∃ e, d = e + 1 := ⟨d - 1, by omega⟩
  exact rfl
theorem c_Ca_ruledBy {d : Nat} (hd : 1 ≤ d) (a0 : Nat) (x1 : Int) (x2 : Int) (S : Sp) (M : Mm) : callD d m_Ca_ruledBy [vR 11 0 a0, vI x1, vI x2] S M = Run (callD (d - 1)) tb_Ca_ruledBy 0 [vR 11 0 a0, vI x1, vI x2] [] S M := by
  obtain ⟨e, rfl⟩ : ∃ e, d = e + 1 := ⟨d - 1, by omega⟩
  exact rfl
theorem c_Ca_share {d : Nat} (hd : 1 ≤ d) (a0 : Nat) (x1 : Int) (x2 : Int) (S : Sp) (M : Mm) : callD d m_Ca_share [vR 11 0 a0, vI x1, vI x2] S M = Run (callD (d - 1)) tb_Ca_share 0 [vR 11 0 a0, vI x1, vI x2, vU, vU, vU] [] S M := by
  obtain ⟨e, rfl⟩ : ∃ e, d = e + 1 := ⟨d - 1, by omega⟩
  exact rfl
theorem c_Ca_tellFraction {d : Nat} (hd : 1 ≤ d) (a0 : Nat) (x1 : Int) (x3 : Int) (S : Sp) (M : Mm) : callD d m_Ca_tellFraction [vR 11 0 a0, vL x1, vL x3] S M = Run (callD (d - 1)) tb_Ca_tellFraction 0 [vR 11 0 a0, vL x1, vU, vL x3, vU, vU, vU, vU, vU, vU, vU, vU] [] S M := by
  obtain ⟨e, rfl⟩ : ∃ e, d = e + 1 := ⟨d - 1, by omega⟩
  exact rfl
theorem c_Ca_lawful {d : Nat} (hd : 1 ≤ d) (a0 : Nat) (x1 : Int) (x2 : Int) (S : Sp) (M : Mm) : callD d m_Ca_lawful [vR 11 0 a0, vI x1, vI x2] S M = Run (callD (d - 1)) tb_Ca_lawful 0 [vR 11 0 a0, vI x1, vI x2] [] S M := by
  obtain ⟨e, rfl⟩ : ∃ e, d = e + 1 := ⟨d - 1, by omega⟩
  exact rfl
theorem c_Ca_lawfulDeeds {d : Nat} (hd : 1 ≤ d) (a0 : Nat) (x1 : Int) (S : Sp) (M : Mm) : callD d m_Ca_lawfulDeeds [vR 11 0 a0, vI x1] S M = Run (callD (d - 1)) tb_Ca_lawfulDeeds 0 [vR 11 0 a0, vI x1, vU, vU, vU, vU] [] S M := by
  obtain ⟨e, rfl⟩ : ∃ e, d = e + 1 := ⟨d - 1, by omega⟩
  exact rfl
theorem c_Integer_bitCount {d : Nat} (hd : 1 ≤ d) (x0 : Int) (S : Sp) (M : Mm) : callD d m_Integer_bitCount [vI x0] S M = Run (callD (d - 1)) tb_Integer_bitCount 0 [vI x0] [] S M := by
  obtain ⟨e, rfl⟩ : ∃ e, d = e + 1 := ⟨d - 1, by omega⟩
  exact rfl
theorem c_Ca_deeds {d : Nat} (hd : 1 ≤ d) (a0 : Nat) (x1 : Int) (S : Sp) (M : Mm) : callD d m_Ca_deeds [vR 11 0 a0, vI x1] S M = Run (callD (d - 1)) tb_Ca_deeds 0 [vR 11 0 a0, vI x1] [] S M := by
  obtain ⟨e, rfl⟩ : ∃ e, d = e + 1 := ⟨d - 1, by omega⟩
  exact rfl
theorem c_Ca_board {d : Nat} (hd : 1 ≤ d) (a0 : Nat) (x1 : Int) (x2 : Int) (S : Sp) (M : Mm) : callD d m_Ca_board [vR 11 0 a0, vI x1, vI x2] S M = Run (callD (d - 1)) tb_Ca_board 0 [vR 11 0 a0, vI x1, vI x2] [] S M := by
  obtain ⟨e, rfl⟩ : ∃ e, d = e + 1 := ⟨d - 1, by omega⟩
  exact rfl
theorem c_Ca_mayBoard {d : Nat} (hd : 1 ≤ d) (a0 : Nat) (x1 : Int) (x2 : Int) (S : Sp) (M : Mm) : callD d m_Ca_mayBoard [vR 11 0 a0, vI x1, vI x2] S M = Run (callD (d - 1)) tb_Ca_mayBoard 0 [vR 11 0 a0, vI x1, vI x2, vU, vU] [] S M := by
  obtain ⟨e, rfl⟩ : ∃ e, d = e + 1 := ⟨d - 1, by omega⟩
  exact rfl
theorem c_Ca_rulerOf {d : Nat} (hd : 1 ≤ d) (a0 : Nat) (x1 : Int) (S : Sp) (M : Mm) : callD d m_Ca_rulerOf [vR 11 0 a0, vI x1] S M = Run (callD (d - 1)) tb_Ca_rulerOf 0 [vR 11 0 a0, vI x1] [] S M := by
  obtain ⟨e, rfl⟩ : ∃ e, d = e + 1 := ⟨d - 1, by omega⟩
  exact rfl
theorem c_Chart_atWar {d : Nat} (hd : 1 ≤ d) (a0 : Nat) (x1 : Int) (x2 : Int) (S : Sp) (M : Mm) : callD d m_Chart_atWar [vR 0 0 a0, vI x1, vI x2] S M = Run (callD (d - 1)) tb_Chart_atWar 0 [vR 0 0 a0, vI x1, vI x2] [] S M := by
  obtain ⟨e, rfl⟩ : ∃ e, d = e + 1 := ⟨d - 1, by omega⟩
  exact rfl
theorem c_Ca_boarders {d : Nat} (hd : 1 ≤ d) (a0 : Nat) (x1 : Int) (S : Sp) (M : Mm) : callD d m_Ca_boarders [vR 11 0 a0, vI x1] S M = Run (callD (d - 1)) tb_Ca_boarders 0 [vR 11 0 a0, vI x1, vU, vU] [] S M := by
  obtain ⟨e, rfl⟩ : ∃ e, d = e + 1 := ⟨d - 1, by omega⟩
  exact rfl
theorem c_Ca_greatest {d : Nat} (hd : 1 ≤ d) (a0 : Nat) (x1 : Int) (S : Sp) (M : Mm) : callD d m_Ca_greatest [vR 11 0 a0, vI x1] S M = Run (callD (d - 1)) tb_Ca_greatest 0 [vR 11 0 a0, vI x1, vU, vU, vU, vU] [] S M := by
  obtain ⟨e, rfl⟩ : ∃ e, d = e + 1 := ⟨d - 1, by omega⟩
  exact rfl
theorem c_Ca_buy {d : Nat} (hd : 1 ≤ d) (a0 : Nat) (x1 : Int) (x2 : Int) (x3 : Int) (S : Sp) (M : Mm) : callD d m_Ca_buy [vR 11 0 a0, vI x1, vI x2, vI x3] S M = Run (callD (d - 1)) tb_Ca_buy 0 [vR 11 0 a0, vI x1, vI x2, vI x3, vU] [] S M := by
  obtain ⟨e, rfl⟩ : ∃ e, d = e + 1 := ⟨d - 1, by omega⟩
  exact rfl
theorem c_Ca_isLading {d : Nat} (hd : 1 ≤ d) (a0 : Nat) (x1 : Int) (x2 : Int) (x3 : Int) (S : Sp) (M : Mm) : callD d m_Ca_isLading [vR 11 0 a0, vI x1, vI x2, vI x3] S M = Run (callD (d - 1)) tb_Ca_isLading 0 [vR 11 0 a0, vI x1, vI x2, vI x3] [] S M := by
  obtain ⟨e, rfl⟩ : ∃ e, d = e + 1 := ⟨d - 1, by omega⟩
  exact rfl
theorem c_Vessel_buys {d : Nat} (hd : 1 ≤ d) (a0 : Nat) (a1 : Nat) (x2 : Int) (x3 : Int) (S : Sp) (M : Mm) : callD d m_Vessel_buys [vR 8 0 a0, vR 0 0 a1, vI x2, vI x3] S M = Run (callD (d - 1)) tb_Vessel_buys 0 [vR 8 0 a0, vR 0 0 a1, vI x2, vI x3, vU] [] S M := by
  obtain ⟨e, rfl⟩ : ∃ e, d = e + 1 := ⟨d - 1, by omega⟩
  exact rfl
theorem c_Ca_sell {d : Nat} (hd : 1 ≤ d) (a0 : Nat) (x1 : Int) (x2 : Int) (x3 : Int) (S : Sp) (M : Mm) : callD d m_Ca_sell [vR 11 0 a0, vI x1, vI x2, vI x3] S M = Run (callD (d - 1)) tb_Ca_sell 0 [vR 11 0 a0, vI x1, vI x2, vI x3, vU] [] S M := by
  obtain ⟨e, rfl⟩ : ∃ e, d = e + 1 := ⟨d - 1, by omega⟩
  exact rfl
theorem c_Vessel_sells {d : Nat} (hd : 1 ≤ d) (a0 : Nat) (a1 : Nat) (x2 : Int) (x3 : Int) (S : Sp) (M : Mm) : callD d m_Vessel_sells [vR 8 0 a0, vR 0 0 a1, vI x2, vI x3] S M = Run (callD (d - 1)) tb_Vessel_sells 0 [vR 8 0 a0, vR 0 0 a1, vI x2, vI x3] [] S M := by
  obtain ⟨e, rfl⟩ : ∃ e, d = e + 1 := ⟨d - 1, by omega⟩
  exact rfl
theorem c_Ca_dump {d : Nat} (hd : 1 ≤ d) (a0 : Nat) (x1 : Int) (x2 : Int) (x3 : Int) (S : Sp) (M : Mm) : callD d m_Ca_dump [vR 11 0 a0, vI x1, vI x2, vI x3] S M = Run (callD (d - 1)) tb_Ca_dump 0 [vR 11 0 a0, vI x1, vI x2, vI x3, vU] [] S M := by
  obtain ⟨e, rfl⟩ : ∃ e, d = e + 1 := ⟨d - 1, by omega⟩
  exact rfl
theorem c_Vessel_dumps {d : Nat} (hd : 1 ≤ d) (a0 : Nat) (x1 : Int) (x2 : Int) (S : Sp) (M : Mm) : callD d m_Vessel_dumps [vR 8 0 a0, vI x1, vI x2] S M = Run (callD (d - 1)) tb_Vessel_dumps 0 [vR 8 0 a0, vI x1, vI x2] [] S M := by
  obtain ⟨e, rfl⟩ : ∃ e, d = e + 1 := ⟨d - 1, by omega⟩
  exact rfl
theorem c_Ca_sail {d : Nat} (hd : 1 ≤ d) (a0 : Nat) (x1 : Int) (x2 : Int) (S : Sp) (M : Mm) : callD d m_Ca_sail [vR 11 0 a0, vI x1, vI x2] S M = Run (callD (d - 1)) tb_Ca_sail 0 [vR 11 0 a0, vI x1, vI x2, vU] [] S M := by
  obtain ⟨e, rfl⟩ : ∃ e, d = e + 1 := ⟨d - 1, by omega⟩
  exact rfl
theorem c_Vessel_sails {d : Nat} (hd : 1 ≤ d) (a0 : Nat) (a1 : Nat) (x2 : Int) (S : Sp) (M : Mm) : callD d m_Vessel_sails [vR 8 0 a0, vR 0 0 a1, vI x2] S M = Run (callD (d - 1)) tb_Vessel_sails 0 [vR 8 0 a0, vR 0 0 a1, vI x2] [] S M := by
  obtain ⟨e, rfl⟩ : ∃ e, d = e + 1 := ⟨d - 1, by omega⟩
  exact rfl
theorem c_Ca_day {d : Nat} (hd : 1 ≤ d) (a0 : Nat) (x1 : Int) (S : Sp) (M : Mm) : callD d m_Ca_day [vR 11 0 a0, vI x1] S M = Run (callD (d - 1)) tb_Ca_day 0 [vR 11 0 a0, vI x1, vU, vU] [] S M := by
  obtain ⟨e, rfl⟩ : ∃ e, d = e + 1 := ⟨d - 1, by omega⟩
  exact rfl
theorem c_State_passDay {d : Nat} (hd : 1 ≤ d) (a0 : Nat) (S : Sp) (M : Mm) : callD d m_State_passDay [vR 5 0 a0] S M = Run (callD (d - 1)) tb_State_passDay 0 [vR 5 0 a0, vU, vU] [] S M := by
  obtain ⟨e, rfl⟩ : ∃ e, d = e + 1 := ⟨d - 1, by omega⟩
  exact rfl
theorem c_Vessel_leaks {d : Nat} (hd : 1 ≤ d) (a0 : Nat) (a1 : Nat) (S : Sp) (M : Mm) : callD d m_Vessel_leaks [vR 8 0 a0, vR 0 0 a1] S M = Run (callD (d - 1)) tb_Vessel_leaks 0 [vR 8 0 a0, vR 0 0 a1, vU, vU] [] S M := by
  obtain ⟨e, rfl⟩ : ∃ e, d = e + 1 := ⟨d - 1, by omega⟩
  exact rfl
theorem c_Vessel_sailsOn {d : Nat} (hd : 1 ≤ d) (a0 : Nat) (a1 : Nat) (x2 : Int) (S : Sp) (M : Mm) : callD d m_Vessel_sailsOn [vR 8 0 a0, vR 0 0 a1, vI x2] S M = Run (callD (d - 1)) tb_Vessel_sailsOn 0 [vR 8 0 a0, vR 0 0 a1, vI x2, vU, vU, vU] [] S M := by
  obtain ⟨e, rfl⟩ : ∃ e, d = e + 1 := ⟨d - 1, by omega⟩
  exact rfl
theorem c_Vessel_paysWage {d : Nat} (hd : 1 ≤ d) (a0 : Nat) (a1 : Nat) (x2 : Int) (S : Sp) (M : Mm) : callD d m_Vessel_paysWage [vR 8 0 a0, vR 0 0 a1, vI x2] S M = Run (callD (d - 1)) tb_Vessel_paysWage 0 [vR 8 0 a0, vR 0 0 a1, vI x2] [] S M := by
  obtain ⟨e, rfl⟩ : ∃ e, d = e + 1 := ⟨d - 1, by omega⟩
  exact rfl
theorem c_Vessel_paysDuty {d : Nat} (hd : 1 ≤ d) (a0 : Nat) (a1 : Nat) (x2 : Int) (S : Sp) (M : Mm) : callD d m_Vessel_paysDuty [vR 8 0 a0, vR 0 0 a1, vI x2] S M = Run (callD (d - 1)) tb_Vessel_paysDuty 0 [vR 8 0 a0, vR 0 0 a1, vI x2, vU, vU] [] S M := by
  obtain ⟨e, rfl⟩ : ∃ e, d = e + 1 := ⟨d - 1, by omega⟩
  exact rfl
theorem c_Ca_pass {d : Nat} (hd : 1 ≤ d) (a0 : Nat) (x1 : Int) (x2 : Int) (x3 : Int) (x4 : Int) (S : Sp) (M : Mm) : callD d m_Ca_pass [vR 11 0 a0, vI x1, vI x2, vI x3, vI x4] S M = Run (callD (d - 1)) tb_Ca_pass 0 [vR 11 0 a0, vI x1, vI x2, vI x3, vI x4, vU, vU] [] S M := by
  obtain ⟨e, rfl⟩ : ∃ e, d = e + 1 := ⟨d - 1, by omega⟩
  exact rfl
theorem c_Ca_rule {d : Nat} (hd : 1 ≤ d) (a0 : Nat) (x1 : Int) (S : Sp) (M : Mm) : callD d m_Ca_rule [vR 11 0 a0, vI x1] S M = Run (callD (d - 1)) tb_Ca_rule 0 [vR 11 0 a0, vI x1] [] S M := by
  obtain ⟨e, rfl⟩ : ∃ e, d = e + 1 := ⟨d - 1, by omega⟩
  exact rfl
theorem c_Ca_war {d : Nat} (hd : 1 ≤ d) (a0 : Nat) (x1 : Int) (x2 : Int) (x3 : Int) (S : Sp) (M : Mm) : callD d m_Ca_war [vR 11 0 a0, vI x1, vI x2, vI x3] S M = Run (callD (d - 1)) tb_Ca_war 0 [vR 11 0 a0, vI x1, vI x2, vI x3] [] S M := by
  obtain ⟨e, rfl⟩ : ∃ e, d = e + 1 := ⟨d - 1, by omega⟩
  exact rfl
theorem c_Ca_trade {d : Nat} (hd : 1 ≤ d) (a0 : Nat) (x1 : Int) (x2 : Int) (x3 : Int) (S : Sp) (M : Mm) : callD d m_Ca_trade [vR 11 0 a0, vI x1, vI x2, vI x3] S M = Run (callD (d - 1)) tb_Ca_trade 0 [vR 11 0 a0, vI x1, vI x2, vI x3] [] S M := by
  obtain ⟨e, rfl⟩ : ∃ e, d = e + 1 := ⟨d - 1, by omega⟩
  exact rfl
theorem c_Ca_pay {d : Nat} (hd : 1 ≤ d) (a0 : Nat) (x1 : Int) (x2 : Int) (S : Sp) (M : Mm) : callD d m_Ca_pay [vR 11 0 a0, vI x1, vI x2] S M = Run (callD (d - 1)) tb_Ca_pay 0 [vR 11 0 a0, vI x1, vI x2, vU] [] S M := by
  obtain ⟨e, rfl⟩ : ∃ e, d = e + 1 := ⟨d - 1, by omega⟩
  exact rfl
theorem c_Ca_flagIn {d : Nat} (hd : 1 ≤ d) (a0 : Nat) (x1 : Int) (x2 : Int) (S : Sp) (M : Mm) : callD d m_Ca_flagIn [vR 11 0 a0, vI x1, vI x2] S M = Run (callD (d - 1)) tb_Ca_flagIn 0 [vR 11 0 a0, vI x1, vI x2] [] S M := by
  obtain ⟨e, rfl⟩ : ∃ e, d = e + 1 := ⟨d - 1, by omega⟩
  exact rfl
theorem c_Ca_isOutlook {d : Nat} (hd : 1 ≤ d) (a0 : Nat) (x1 : Int) (x2 : Int) (S : Sp) (M : Mm) : callD d m_Ca_isOutlook [vR 11 0 a0, vI x1, vI x2] S M = Run (callD (d - 1)) tb_Ca_isOutlook 0 [vR 11 0 a0, vI x1, vI x2] [] S M := by
  obtain ⟨e, rfl⟩ : ∃ e, d = e + 1 := ⟨d - 1, by omega⟩
  exact rfl
theorem c_Outlook_flagAfter {d : Nat} (hd : 1 ≤ d) (a0 : Nat) (a1 : Nat) (a2 : Nat) (x3 : Int) (S : Sp) (M : Mm) : callD d m_Outlook_flagAfter [vR 2 0 a0, vR 0 0 a1, vR 8 0 a2, vI x3] S M = Run (callD (d - 1)) tb_Outlook_flagAfter 0 [vR 2 0 a0, vR 0 0 a1, vR 8 0 a2, vI x3] [] S M := by
  obtain ⟨e, rfl⟩ : ∃ e, d = e + 1 := ⟨d - 1, by omega⟩
  exact rfl
theorem c_Outlook_leakFor {d : Nat} (hd : 1 ≤ d) (a0 : Nat) (a1 : Nat) (a2 : Nat) (x3 : Int) (S : Sp) (M : Mm) : callD d m_Outlook_leakFor [vR 2 0 a0, vR 0 0 a1, vR 8 0 a2, vI x3] S M = Run (callD (d - 1)) tb_Outlook_leakFor 0 [vR 2 0 a0, vR 0 0 a1, vR 8 0 a2, vI x3, vU] [] S M := by
  obtain ⟨e, rfl⟩ : ∃ e, d = e + 1 := ⟨d - 1, by omega⟩
  exact rfl
theorem c_Outlook_leaked {d : Nat} (hd : 1 ≤ d) (a0 : Nat) (x1 : Int) (x2 : Int) (x3 : Int) (S : Sp) (M : Mm) : callD d m_Outlook_leaked [vR 0 0 a0, vI x1, vI x2, vI x3] S M = Run (callD (d - 1)) tb_Outlook_leaked 0 [vR 0 0 a0, vI x1, vI x2, vI x3] [] S M := by
  obtain ⟨e, rfl⟩ : ∃ e, d = e + 1 := ⟨d - 1, by omega⟩
  exact rfl
theorem c_Ca_tonsIn {d : Nat} (hd : 1 ≤ d) (a0 : Nat) (x1 : Int) (x2 : Int) (S : Sp) (M : Mm) : callD d m_Ca_tonsIn [vR 11 0 a0, vI x1, vI x2] S M = Run (callD (d - 1)) tb_Ca_tonsIn 0 [vR 11 0 a0, vI x1, vI x2] [] S M := by
  obtain ⟨e, rfl⟩ : ∃ e, d = e + 1 := ⟨d - 1, by omega⟩
  exact rfl
theorem c_Outlook_tonsAfter {d : Nat} (hd : 1 ≤ d) (a0 : Nat) (a1 : Nat) (a2 : Nat) (x3 : Int) (S : Sp) (M : Mm) : callD d m_Outlook_tonsAfter [vR 2 0 a0, vR 0 0 a1, vR 8 0 a2, vI x3] S M = Run (callD (d - 1)) tb_Outlook_tonsAfter 0 [vR 2 0 a0, vR 0 0 a1, vR 8 0 a2, vI x3, vU, vU] [] S M := by
  obtain ⟨e, rfl⟩ : ∃ e, d = e + 1 := ⟨d - 1, by omega⟩
  exact rfl
theorem c_Ca_turns {d : Nat} (hd : 1 ≤ d) (a0 : Nat) (x1 : Int) (S : Sp) (M : Mm) : callD d m_Ca_turns [vR 11 0 a0, vI x1] S M = Run (callD (d - 1)) tb_Ca_turns 0 [vR 11 0 a0, vI x1] [] S M := by
  obtain ⟨e, rfl⟩ : ∃ e, d = e + 1 := ⟨d - 1, by omega⟩
  exact rfl
theorem c_Outlook_daysToTurn {d : Nat} (hd : 1 ≤ d) (a0 : Nat) (a1 : Nat) (a2 : Nat) (S : Sp) (M : Mm) : callD d m_Outlook_daysToTurn [vR 2 0 a0, vR 0 0 a1, vR 8 0 a2] S M = Run (callD (d - 1)) tb_Outlook_daysToTurn 0 [vR 2 0 a0, vR 0 0 a1, vR 8 0 a2, vU, vU] [] S M := by
  obtain ⟨e, rfl⟩ : ∃ e, d = e + 1 := ⟨d - 1, by omega⟩
  exact rfl
theorem c_Ca_flags {d : Nat} (hd : 1 ≤ d) (a0 : Nat) (x1 : Int) (x2 : Int) (S : Sp) (M : Mm) : callD d m_Ca_flags [vR 11 0 a0, vI x1, vI x2] S M = Run (callD (d - 1)) tb_Ca_flags 0 [vR 11 0 a0, vI x1, vI x2] [] S M := by
  obtain ⟨e, rfl⟩ : ∃ e, d = e + 1 := ⟨d - 1, by omega⟩
  exact rfl
theorem c_Outlook_flagsBegun {d : Nat} (hd : 1 ≤ d) (a0 : Nat) (a1 : Nat) (a2 : Nat) (x3 : Int) (S : Sp) (M : Mm) : callD d m_Outlook_flagsBegun [vR 2 0 a0, vR 0 0 a1, vR 8 0 a2, vI x3] S M = Run (callD (d - 1)) tb_Outlook_flagsBegun 0 [vR 2 0 a0, vR 0 0 a1, vR 8 0 a2, vI x3, vU, vU, vU, vU] [] S M := by
  obtain ⟨e, rfl⟩ : ∃ e, d = e + 1 := ⟨d - 1, by omega⟩
  exact rfl
theorem c_Ca_wages {d : Nat} (hd : 1 ≤ d) (a0 : Nat) (x1 : Int) (x2 : Int) (S : Sp) (M : Mm) : callD d m_Ca_wages [vR 11 0 a0, vI x1, vI x2] S M = Run (callD (d - 1)) tb_Ca_wages 0 [vR 11 0 a0, vI x1, vI x2] [] S M := by
  obtain ⟨e, rfl⟩ : ∃ e, d = e + 1 := ⟨d - 1, by omega⟩
  exact rfl
theorem c_Outlook_wagesDue {d : Nat} (hd : 1 ≤ d) (a0 : Nat) (a1 : Nat) (a2 : Nat) (x3 : Int) (S : Sp) (M : Mm) : callD d m_Outlook_wagesDue [vR 2 0 a0, vR 0 0 a1, vR 8 0 a2, vI x3] S M = Run (callD (d - 1)) tb_Outlook_wagesDue 0 [vR 2 0 a0, vR 0 0 a1, vR 8 0 a2, vI x3, vU, vU, vU] [] S M := by
  obtain ⟨e, rfl⟩ : ∃ e, d = e + 1 := ⟨d - 1, by omega⟩
  exact rfl
theorem c_Ca_stowaway {d : Nat} (hd : 1 ≤ d) (a0 : Nat) (x1 : Int) (S : Sp) (M : Mm) : callD d m_Ca_stowaway [vR 11 0 a0, vI x1] S M = Run (callD (d - 1)) tb_Ca_stowaway 0 [vR 11 0 a0, vI x1] [] S M := by
  obtain ⟨e, rfl⟩ : ∃ e, d = e + 1 := ⟨d - 1, by omega⟩
  exact rfl
theorem c_Ca_stowawayAt {d : Nat} (hd : 1 ≤ d) (a0 : Nat) (x1 : Int) (x2 : Int) (S : Sp) (M : Mm) : callD d m_Ca_stowawayAt [vR 11 0 a0, vI x1, vI x2] S M = Run (callD (d - 1)) tb_Ca_stowawayAt 0 [vR 11 0 a0, vI x1, vI x2] [] S M := by
  obtain ⟨e, rfl⟩ : ∃ e, d = e + 1 := ⟨d - 1, by omega⟩
  exact rfl
theorem c_Outlook_findStowaway {d : Nat} (hd : 1 ≤ d) (a0 : Nat) (a1 : Nat) (a2 : Nat) (S : Sp) (M : Mm) : callD d m_Outlook_findStowaway [vR 2 0 a0, vR 0 0 a1, vR 8 0 a2] S M = Run (callD (d - 1)) tb_Outlook_findStowaway 0 [vR 2 0 a0, vR 0 0 a1, vR 8 0 a2, vU, vU, vU] [] S M := by
  obtain ⟨e, rfl⟩ : ∃ e, d = e + 1 := ⟨d - 1, by omega⟩
  exact rfl
theorem c_Outlook_turnsBy {d : Nat} (hd : 1 ≤ d) (a0 : Nat) (a1 : Nat) (a2 : Nat) (x3 : Int) (x4 : Int) (x5 : Int) (S : Sp) (M : Mm) : callD d m_Outlook_turnsBy [vR 2 0 a0, vR 0 0 a1, vR 8 0 a2, vI x3, vI x4, vI x5] S M = Run (callD (d - 1)) tb_Outlook_turnsBy 0 [vR 2 0 a0, vR 0 0 a1, vR 8 0 a2, vI x3, vI x4, vI x5] [] S M := by
  obtain ⟨e, rfl⟩ : ∃ e, d = e + 1 := ⟨d - 1, by omega⟩
  exact rfl
theorem c_Outlook_change {d : Nat} (hd : 1 ≤ d) (a0 : Nat) (a1 : Nat) (x2 : Int) (x3 : Int) (S : Sp) (M : Mm) : callD d m_Outlook_change [vR 2 0 a0, vR 8 0 a1, vI x2, vI x3] S M = Run (callD (d - 1)) tb_Outlook_change 0 [vR 2 0 a0, vR 8 0 a1, vI x2, vI x3] [] S M := by
  obtain ⟨e, rfl⟩ : ∃ e, d = e + 1 := ⟨d - 1, by omega⟩
  exact rfl
theorem c_Outlook_found {d : Nat} (hd : 1 ≤ d) (a0 : Nat) (x1 : Int) (x2 : Int) (S : Sp) (M : Mm) : callD d m_Outlook_found [vR 2 0 a0, vI x1, vI x2] S M = Run (callD (d - 1)) tb_Outlook_found 0 [vR 2 0 a0, vI x1, vI x2] [] S M := by
  obtain ⟨e, rfl⟩ : ∃ e, d = e + 1 := ⟨d - 1, by omega⟩
  exact rfl
theorem c_Ca_stowawayGood {d : Nat} (hd : 1 ≤ d) (a0 : Nat) (x1 : Int) (S : Sp) (M : Mm) : callD d m_Ca_stowawayGood [vR 11 0 a0, vI x1] S M = Run (callD (d - 1)) tb_Ca_stowawayGood 0 [vR 11 0 a0, vI x1] [] S M := by
  obtain ⟨e, rfl⟩ : ∃ e, d = e + 1 := ⟨d - 1, by omega⟩
  exact rfl
theorem c_Ca_guard {d : Nat} (hd : 1 ≤ d) (a0 : Nat) (x1 : Int) (x2 : Int) (S : Sp) (M : Mm) : callD d m_Ca_guard [vR 11 0 a0, vI x1, vI x2] S M = Run (callD (d - 1)) tb_Ca_guard 0 [vR 11 0 a0, vI x1, vI x2] [] S M := by
  obtain ⟨e, rfl⟩ : ∃ e, d = e + 1 := ⟨d - 1, by omega⟩
  exact rfl
theorem c_Outlook_isGuarded {d : Nat} (hd : 1 ≤ d) (a0 : Nat) (a1 : Nat) (a2 : Nat) (x3 : Int) (S : Sp) (M : Mm) : callD d m_Outlook_isGuarded [vR 2 0 a0, vR 0 0 a1, vR 8 0 a2, vI x3] S M = Run (callD (d - 1)) tb_Outlook_isGuarded 0 [vR 2 0 a0, vR 0 0 a1, vR 8 0 a2, vI x3, vU, vU] [] S M := by
  obtain ⟨e, rfl⟩ : ∃ e, d = e + 1 := ⟨d - 1, by omega⟩
  exact rfl
theorem c_Ca_passFor {d : Nat} (hd : 1 ≤ d) (a0 : Nat) (x1 : Int) (x2 : Int) (S : Sp) (M : Mm) : callD d m_Ca_passFor [vR 11 0 a0, vI x1, vI x2] S M = Run (callD (d - 1)) tb_Ca_passFor 0 [vR 11 0 a0, vI x1, vI x2] [] S M := by
  obtain ⟨e, rfl⟩ : ∃ e, d = e + 1 := ⟨d - 1, by omega⟩
  exact rfl
theorem c_Ca_passAt {d : Nat} (hd : 1 ≤ d) (a0 : Nat) (x1 : Int) (x2 : Int) (x3 : Int) (S : Sp) (M : Mm) : callD d m_Ca_passAt [vR 11 0 a0, vI x1, vI x2, vI x3] S M = Run (callD (d - 1)) tb_Ca_passAt 0 [vR 11 0 a0, vI x1, vI x2, vI x3] [] S M := by
  obtain ⟨e, rfl⟩ : ∃ e, d = e + 1 := ⟨d - 1, by omega⟩
  exact rfl
theorem c_Outlook_findPass {d : Nat} (hd : 1 ≤ d) (a0 : Nat) (a1 : Nat) (a2 : Nat) (x3 : Int) (S : Sp) (M : Mm) : callD d m_Outlook_findPass [vR 2 0 a0, vR 0 0 a1, vR 8 0 a2, vI x3] S M = Run (callD (d - 1)) tb_Outlook_findPass 0 [vR 2 0 a0, vR 0 0 a1, vR 8 0 a2, vI x3, vU, vU, vU] [] S M := by
  obtain ⟨e, rfl⟩ : ∃ e, d = e + 1 := ⟨d - 1, by omega⟩
  exact rfl
theorem c_Ca_passGood {d : Nat} (hd : 1 ≤ d) (a0 : Nat) (x1 : Int) (x2 : Int) (S : Sp) (M : Mm) : callD d m_Ca_passGood [vR 11 0 a0, vI x1, vI x2] S M = Run (callD (d - 1)) tb_Ca_passGood 0 [vR 11 0 a0, vI x1, vI x2] [] S M := by
  obtain ⟨e, rfl⟩ : ∃ e, d = e + 1 := ⟨d - 1, by omega⟩
  exact rfl
theorem c_Ca_peace {d : Nat} (hd : 1 ≤ d) (a0 : Nat) (x1 : Int) (S : Sp) (M : Mm) : callD d m_Ca_peace [vR 11 0 a0, vI x1] S M = Run (callD (d - 1)) tb_Ca_peace 0 [vR 11 0 a0, vI x1] [] S M := by
  obtain ⟨e, rfl⟩ : ∃ e, d = e + 1 := ⟨d - 1, by omega⟩
  exact rfl
theorem c_Ca_peaceAt {d : Nat} (hd : 1 ≤ d) (a0 : Nat) (x1 : Int) (x2 : Int) (S : Sp) (M : Mm) : callD d m_Ca_peaceAt [vR 11 0 a0, vI x1, vI x2] S M = Run (callD (d - 1)) tb_Ca_peaceAt 0 [vR 11 0 a0, vI x1, vI x2] [] S M := by
  obtain ⟨e, rfl⟩ : ∃ e, d = e + 1 := ⟨d - 1, by omega⟩
  exact rfl
theorem c_Outlook_findPeace {d : Nat} (hd : 1 ≤ d) (a0 : Nat) (a1 : Nat) (a2 : Nat) (S : Sp) (M : Mm) : callD d m_Outlook_findPeace [vR 2 0 a0, vR 0 0 a1, vR 8 0 a2] S M = Run (callD (d - 1)) tb_Outlook_findPeace 0 [vR 2 0 a0, vR 0 0 a1, vR 8 0 a2, vU, vU, vU, vU, vU] [] S M := by
  obtain ⟨e, rfl⟩ : ∃ e, d = e + 1 := ⟨d - 1, by omega⟩
  exact rfl
theorem c_Ca_peaceCost {d : Nat} (hd : 1 ≤ d) (a0 : Nat) (x1 : Int) (S : Sp) (M : Mm) : callD d m_Ca_peaceCost [vR 11 0 a0, vI x1] S M = Run (callD (d - 1)) tb_Ca_peaceCost 0 [vR 11 0 a0, vI x1] [] S M := by
  obtain ⟨e, rfl⟩ : ∃ e, d = e + 1 := ⟨d - 1, by omega⟩
  exact rfl
theorem c_Ca_voyage {d : Nat} (hd : 1 ≤ d) (a0 : Nat) (x1 : Int) (x2 : Int) (S : Sp) (M : Mm) : callD d m_Ca_voyage [vR 11 0 a0, vI x1, vI x2] S M = Run (callD (d - 1)) tb_Ca_voyage 0 [vR 11 0 a0, vI x1, vI x2] [] S M := by
  obtain ⟨e, rfl⟩ : ∃ e, d = e + 1 := ⟨d - 1, by omega⟩
  exact rfl
theorem c_Ca_seekVoyage {d : Nat} (hd : 1 ≤ d) (a0 : Nat) (x1 : Int) (x2 : Int) (S : Sp) (M : Mm) : callD d m_Ca_seekVoyage [vR 11 0 a0, vI x1, vI x2] S M = Run (callD (d - 1)) tb_Ca_seekVoyage 0 [vR 11 0 a0, vI x1, vI x2] [] S M := by
  obtain ⟨e, rfl⟩ : ∃ e, d = e + 1 := ⟨d - 1, by omega⟩
  exact rfl
theorem c_Search_finds {d : Nat} (hd : 1 ≤ d) (a0 : Nat) (a1 : Nat) (a2 : Nat) (x3 : Int) (S : Sp) (M : Mm) : callD d m_Search_finds [vR 4 0 a0, vR 0 0 a1, vR 8 0 a2, vI x3] S M = Run (callD (d - 1)) tb_Search_finds 0 [vR 4 0 a0, vR 0 0 a1, vR 8 0 a2, vI x3] [] S M := by
  obtain ⟨e, rfl⟩ : ∃ e, d = e + 1 := ⟨d - 1, by omega⟩
  exact rfl
theorem c_Search_mostCoins {d : Nat} (hd : 1 ≤ d) (a0 : Nat) (a1 : Nat) (x2 : Int) (x3 : Int) (S : Sp) (M : Mm) : callD d m_Search_mostCoins [vR 4 0 a0, vR 0 0 a1, vI x2, vI x3] S M = Run (callD (d - 1)) tb_Search_mostCoins 0 [vR 4 0 a0, vR 0 0 a1, vI x2, vI x3, vU, vU, vU, vU, vU, vU] [] S M := by
  obtain ⟨e, rfl⟩ : ∃ e, d = e + 1 := ⟨d - 1, by omega⟩
  exact rfl
theorem c_Vessel_sellsAll {d : Nat} (hd : 1 ≤ d) (a0 : Nat) (a1 : Nat) (S : Sp) (M : Mm) : callD d m_Vessel_sellsAll [vR 8 0 a0, vR 0 0 a1] S M = Run (callD (d - 1)) tb_Vessel_sellsAll 0 [vR 8 0 a0, vR 0 0 a1, vU] [] S M := by
  obtain ⟨e, rfl⟩ : ∃ e, d = e + 1 := ⟨d - 1, by omega⟩
  exact rfl
theorem c_Search_goes {d : Nat} (hd : 1 ≤ d) (a0 : Nat) (a1 : Nat) (x2 : Int) (x3 : Int) (x4 : Int) (S : Sp) (M : Mm) : callD d m_Search_goes [vR 4 0 a0, vR 0 0 a1, vI x2, vI x3, vI x4] S M = Run (callD (d - 1)) tb_Search_goes 0 [vR 4 0 a0, vR 0 0 a1, vI x2, vI x3, vI x4, vU] [] S M := by
  obtain ⟨e, rfl⟩ : ∃ e, d = e + 1 := ⟨d - 1, by omega⟩
  exact rfl
theorem c_Vessel_buysMost {d : Nat} (hd : 1 ≤ d) (a0 : Nat) (a1 : Nat) (x2 : Int) (S : Sp) (M : Mm) : callD d m_Vessel_buysMost [vR 8 0 a0, vR 0 0 a1, vI x2] S M = Run (callD (d - 1)) tb_Vessel_buysMost 0 [vR 8 0 a0, vR 0 0 a1, vI x2, vU, vU] [] S M := by
  obtain ⟨e, rfl⟩ : ∃ e, d = e + 1 := ⟨d - 1, by omega⟩
  exact rfl
theorem c_Search_noteFirstLeg {d : Nat} (hd : 1 ≤ d) (a0 : Nat) (x1 : Int) (x2 : Int) (x3 : Int) (S : Sp) (M : Mm) : callD d m_Search_noteFirstLeg [vR 4 0 a0, vI x1, vI x2, vI x3] S M = Run (callD (d - 1)) tb_Search_noteFirstLeg 0 [vR 4 0 a0, vI x1, vI x2, vI x3] [] S M := by
  obtain ⟨e, rfl⟩ : ∃ e, d = e + 1 := ⟨d - 1, by omega⟩
  exact rfl
theorem c_Ca_voyageAt {d : Nat} (hd : 1 ≤ d) (a0 : Nat) (x1 : Int) (x2 : Int) (x3 : Int) (S : Sp) (M : Mm) : callD d m_Ca_voyageAt [vR 11 0 a0, vI x1, vI x2, vI x3] S M = Run (callD (d - 1)) tb_Ca_voyageAt 0 [vR 11 0 a0, vI x1, vI x2, vI x3] [] S M := by
  obtain ⟨e, rfl⟩ : ∃ e, d = e + 1 := ⟨d - 1, by omega⟩
  exact rfl
theorem c_Ca_soonest {d : Nat} (hd : 1 ≤ d) (a0 : Nat) (x1 : Int) (x2 : Int) (S : Sp) (M : Mm) : callD d m_Ca_soonest [vR 11 0 a0, vI x1, vI x2] S M = Run (callD (d - 1)) tb_Ca_soonest 0 [vR 11 0 a0, vI x1, vI x2] [] S M := by
  obtain ⟨e, rfl⟩ : ∃ e, d = e + 1 := ⟨d - 1, by omega⟩
  exact rfl
theorem c_Chart_measureFrom {d : Nat} (hd : 1 ≤ d) (a0 : Nat) (x1 : Int) (S : Sp) (M : Mm) : callD d m_Chart_measureFrom [vR 0 0 a0, vI x1] S M = Run (callD (d - 1)) tb_Chart_measureFrom 0 [vR 0 0 a0, vI x1, vU, vU] [] S M := by
  obtain ⟨e, rfl⟩ : ∃ e, d = e + 1 := ⟨d - 1, by omega⟩
  exact rfl
theorem c_Chart_shortenFrom {d : Nat} (hd : 1 ≤ d) (a0 : Nat) (x1 : Int) (S : Sp) (M : Mm) : callD d m_Chart_shortenFrom [vR 0 0 a0, vI x1] S M = Run (callD (d - 1)) tb_Chart_shortenFrom 0 [vR 0 0 a0, vI x1, vU, vU] [] S M := by
  obtain ⟨e, rfl⟩ : ∃ e, d = e + 1 := ⟨d - 1, by omega⟩
  exact rfl
theorem c_Ca_next {d : Nat} (hd : 1 ≤ d) (a0 : Nat) (x1 : Int) (x2 : Int) (S : Sp) (M : Mm) : callD d m_Ca_next [vR 11 0 a0, vI x1, vI x2] S M = Run (callD (d - 1)) tb_Ca_next 0 [vR 11 0 a0, vI x1, vI x2] [] S M := by
  obtain ⟨e, rfl⟩ : ∃ e, d = e + 1 := ⟨d - 1, by omega⟩
  exact rfl
theorem c_Chart_firstTowards {d : Nat} (hd : 1 ≤ d) (a0 : Nat) (x1 : Int) (x2 : Int) (S : Sp) (M : Mm) : callD d m_Chart_firstTowards [vR 0 0 a0, vI x1, vI x2] S M = Run (callD (d - 1)) tb_Chart_firstTowards 0 [vR 0 0 a0, vI x1, vI x2, vU] [] S M := by
  obtain ⟨e, rfl⟩ : ∃ e, d = e + 1 := ⟨d - 1, by omega⟩
  exact rfl
theorem c_Ca_reach {d : Nat} (hd : 1 ≤ d) (a0 : Nat) (x1 : Int) (S : Sp) (M : Mm) : callD d m_Ca_reach [vR 11 0 a0, vI x1] S M = Run (callD (d - 1)) tb_Ca_reach 0 [vR 11 0 a0, vI x1, vU, vU] [] S M := by
  obtain ⟨e, rfl⟩ : ∃ e, d = e + 1 := ⟨d - 1, by omega⟩
  exact rfl
theorem c_Ca_best {d : Nat} (hd : 1 ≤ d) (a0 : Nat) (x1 : Int) (x2 : Int) (S : Sp) (M : Mm) : callD d m_Ca_best [vR 11 0 a0, vI x1, vI x2] S M = Run (callD (d - 1)) tb_Ca_best 0 [vR 11 0 a0, vI x1, vI x2, vU, vU, vU, vU, vU] [] S M := by
  obtain ⟨e, rfl⟩ : ∃ e, d = e + 1 := ⟨d - 1, by omega⟩
  exact rfl
theorem c_Ca_log {d : Nat} (hd : 1 ≤ d) (a0 : Nat) (x1 : Int) (x2 : Int) (x3 : Int) (S : Sp) (M : Mm) : callD d m_Ca_log [vR 11 0 a0, vI x1, vI x2, vI x3] S M = Run (callD (d - 1)) tb_Ca_log 0 [vR 11 0 a0, vI x1, vI x2, vI x3] [] S M := by
  obtain ⟨e, rfl⟩ : ∃ e, d = e + 1 := ⟨d - 1, by omega⟩
  exact rfl
theorem c_Ca_seekLog {d : Nat} (hd : 1 ≤ d) (a0 : Nat) (x1 : Int) (x2 : Int) (x3 : Int) (S : Sp) (M : Mm) : callD d m_Ca_seekLog [vR 11 0 a0, vI x1, vI x2, vI x3] S M = Run (callD (d - 1)) tb_Ca_seekLog 0 [vR 11 0 a0, vI x1, vI x2, vI x3, vU, vU, vU, vU] [] S M := by
  obtain ⟨e, rfl⟩ : ∃ e, d = e + 1 := ⟨d - 1, by omega⟩
  exact rfl
theorem c_Trays_troubleFirst {d : Nat} (hd : 1 ≤ d) (a0 : Nat) (x1 : Int) (x2 : Int) (S : Sp) (M : Mm) : callD d m_Trays_troubleFirst [vR 7 0 a0, vI x1, vI x2] S M = Run (callD (d - 1)) tb_Trays_troubleFirst 0 [vR 7 0 a0, vI x1, vI x2] [] S M := by
  obtain ⟨e, rfl⟩ : ∃ e, d = e + 1 := ⟨d - 1, by omega⟩
  exact rfl
theorem c_Outlook_countWays {d : Nat} (hd : 1 ≤ d) (a0 : Nat) (a1 : Nat) (x2 : Int) (x3 : Int) (S : Sp) (M : Mm) : callD d m_Outlook_countWays [vR 2 0 a0, vR 0 0 a1, vI x2, vI x3] S M = Run (callD (d - 1)) tb_Outlook_countWays 0 [vR 2 0 a0, vR 0 0 a1, vI x2, vI x3, vU, vU, vU] [] S M := by
  obtain ⟨e, rfl⟩ : ∃ e, d = e + 1 := ⟨d - 1, by omega⟩
  exact rfl
theorem c_Outlook_countLoads {d : Nat} (hd : 1 ≤ d) (a0 : Nat) (a1 : Nat) (x2 : Int) (x3 : Int) (x4 : Int) (x5 : Int) (S : Sp) (M : Mm) : callD d m_Outlook_countLoads [vR 2 0 a0, vR 0 0 a1, vI x2, vI x3, vI x4, vI x5] S M = Run (callD (d - 1)) tb_Outlook_countLoads 0 [vR 2 0 a0, vR 0 0 a1, vI x2, vI x3, vI x4, vI x5, vU, vU] [] S M := by
  obtain ⟨e, rfl⟩ : ∃ e, d = e + 1 := ⟨d - 1, by omega⟩
  exact rfl
theorem c_Outlook_fits {d : Nat} (hd : 1 ≤ d) (a0 : Nat) (a1 : Nat) (x2 : Int) (x3 : Int) (x4 : Int) (x5 : Int) (x6 : Int) (S : Sp) (M : Mm) : callD d m_Outlook_fits [vR 2 0 a0, vR 0 0 a1, vI x2, vI x3, vI x4, vI x5, vI x6] S M = Run (callD (d - 1)) tb_Outlook_fits 0 [vR 2 0 a0, vR 0 0 a1, vI x2, vI x3, vI x4, vI x5, vI x6, vU, vU, vU] [] S M := by
  obtain ⟨e, rfl⟩ : ∃ e, d = e + 1 := ⟨d - 1, by omega⟩
  exact rfl
theorem c_Outlook_flagOfTwo {d : Nat} (hd : 1 ≤ d) (a0 : Nat) (x1 : Int) (x2 : Int) (x3 : Int) (x4 : Int) (S : Sp) (M : Mm) : callD d m_Outlook_flagOfTwo [vR 0 0 a0, vI x1, vI x2, vI x3, vI x4] S M = Run (callD (d - 1)) tb_Outlook_flagOfTwo 0 [vR 0 0 a0, vI x1, vI x2, vI x3, vI x4, vU] [] S M := by
  obtain ⟨e, rfl⟩ : ∃ e, d = e + 1 := ⟨d - 1, by omega⟩
  exact rfl
theorem c_Ca_sure {d : Nat} (hd : 1 ≤ d) (a0 : Nat) (x1 : Int) (x2 : Int) (x3 : Int) (S : Sp) (M : Mm) : callD d m_Ca_sure [vR 11 0 a0, vI x1, vI x2, vI x3] S M = Run (callD (d - 1)) tb_Ca_sure 0 [vR 11 0 a0, vI x1, vI x2, vI x3] [] S M := by
  obtain ⟨e, rfl⟩ : ∃ e, d = e + 1 := ⟨d - 1, by omega⟩
  exact rfl
theorem c_Ca_copyLog {d : Nat} (hd : 1 ≤ d) (a0 : Nat) (x1 : Int) (x2 : Int) (x3 : Int) (S : Sp) (M : Mm) : callD d m_Ca_copyLog [vR 11 0 a0, vI x1, vI x2, vI x3] S M = Run (callD (d - 1)) tb_Ca_copyLog 0 [vR 11 0 a0, vI x1, vI x2, vI x3, vU, vU] [] S M := by
  obtain ⟨e, rfl⟩ : ∃ e, d = e + 1 := ⟨d - 1, by omega⟩
  exact rfl
theorem c_Ca_live {d : Nat} (hd : 1 ≤ d) (a0 : Nat) (x1 : Int) (S : Sp) (M : Mm) : callD d m_Ca_live [vR 11 0 a0, vI x1] S M = Run (callD (d - 1)) tb_Ca_live 0 [vR 11 0 a0, vI x1, vU] [] S M := by
  obtain ⟨e, rfl⟩ : ∃ e, d = e + 1 := ⟨d - 1, by omega⟩
  exact rfl
theorem c_Life_runs {d : Nat} (hd : 1 ≤ d) (a0 : Nat) (a1 : Nat) (x2 : Int) (S : Sp) (M : Mm) : callD d m_Life_runs [vR 1 0 a0, vR 5 0 a1, vI x2] S M = Run (callD (d - 1)) tb_Life_runs 0 [vR 1 0 a0, vR 5 0 a1, vI x2, vU, vU, vU] [] S M := by
  obtain ⟨e, rfl⟩ : ∃ e, d = e + 1 := ⟨d - 1, by omega⟩
  exact rfl
theorem c_Life_passEnd {d : Nat} (hd : 1 ≤ d) (a0 : Nat) (a1 : Nat) (S : Sp) (M : Mm) : callD d m_Life_passEnd [vR 1 0 a0, vR 3 0 a1] S M = Run (callD (d - 1)) tb_Life_passEnd 0 [vR 1 0 a0, vR 3 0 a1, vU] [] S M := by
  obtain ⟨e, rfl⟩ : ∃ e, d = e + 1 := ⟨d - 1, by omega⟩
  exact rfl
theorem c_Life_turn {d : Nat} (hd : 1 ≤ d) (a0 : Nat) (a1 : Nat) (x2 : Int) (S : Sp) (M : Mm) : callD d m_Life_turn [vR 1 0 a0, vR 5 0 a1, vI x2] S M = Run (callD (d - 1)) tb_Life_turn 0 [vR 1 0 a0, vR 5 0 a1, vI x2] [] S M := by
  obtain ⟨e, rfl⟩ : ∃ e, d = e + 1 := ⟨d - 1, by omega⟩
  exact rfl
theorem c_Life_holds {d : Nat} (hd : 1 ≤ d) (a0 : Nat) (a1 : Nat) (x2 : Int) (S : Sp) (M : Mm) : callD d m_Life_holds [vR 1 0 a0, vR 5 0 a1, vI x2] S M = Run (callD (d - 1)) tb_Life_holds 0 [vR 1 0 a0, vR 5 0 a1, vI x2, vU, vU, vU] [] S M := by
  obtain ⟨e, rfl⟩ : ∃ e, d = e + 1 := ⟨d - 1, by omega⟩
  exact rfl
theorem c_Life_does {d : Nat} (hd : 1 ≤ d) (a0 : Nat) (a1 : Nat) (x2 : Int) (S : Sp) (M : Mm) : callD d m_Life_does [vR 1 0 a0, vR 5 0 a1, vI x2] S M = Run (callD (d - 1)) tb_Life_does 0 [vR 1 0 a0, vR 5 0 a1, vI x2, vU, vU, vU] [] S M := by
  obtain ⟨e, rfl⟩ : ∃ e, d = e + 1 := ⟨d - 1, by omega⟩
  exact rfl
theorem c_Life_passesDays {d : Nat} (hd : 1 ≤ d) (a0 : Nat) (a1 : Nat) (x2 : Int) (S : Sp) (M : Mm) : callD d m_Life_passesDays [vR 1 0 a0, vR 5 0 a1, vI x2] S M = Run (callD (d - 1)) tb_Life_passesDays 0 [vR 1 0 a0, vR 5 0 a1, vI x2, vU] [] S M := by
  obtain ⟨e, rfl⟩ : ∃ e, d = e + 1 := ⟨d - 1, by omega⟩
  exact rfl
theorem c_Life_buysTons {d : Nat} (hd : 1 ≤ d) (a0 : Nat) (a1 : Nat) (a2 : Nat) (x3 : Int) (x4 : Int) (S : Sp) (M : Mm) : callD d m_Life_buysTons [vR 1 0 a0, vR 0 0 a1, vR 8 0 a2, vI x3, vI x4] S M = Run (callD (d - 1)) tb_Life_buysTons 0 [vR 1 0 a0, vR 0 0 a1, vR 8 0 a2, vI x3, vI x4] [] S M := by
  obtain ⟨e, rfl⟩ : ∃ e, d = e + 1 := ⟨d - 1, by omega⟩
  exact rfl
theorem c_Life_draw {d : Nat} (hd : 1 ≤ d) (a0 : Nat) (x1 : Int) (S : Sp) (M : Mm) : callD d m_Life_draw [vR 1 0 a0, vI x1] S M = Run (callD (d - 1)) tb_Life_draw 0 [vR 1 0 a0, vI x1] [] S M := by
  obtain ⟨e, rfl⟩ : ∃ e, d = e + 1 := ⟨d - 1, by omega⟩
  exact rfl
theorem c_Ca_lived {d : Nat} (hd : 1 ≤ d) (a0 : Nat) (x1 : Int) (S : Sp) (M : Mm) : callD d m_Ca_lived [vR 11 0 a0, vI x1] S M = Run (callD (d - 1)) tb_Ca_lived 0 [vR 11 0 a0, vI x1] [] S M := by
  obtain ⟨e, rfl⟩ : ∃ e, d = e + 1 := ⟨d - 1, by omega⟩
  exact rfl
theorem c_Ca_mean {d : Nat} (hd : 1 ≤ d) (a0 : Nat) (x1 : Int) (x2 : Int) (S : Sp) (M : Mm) : callD d m_Ca_mean [vR 11 0 a0, vI x1, vI x2] S M = Run (callD (d - 1)) tb_Ca_mean 0 [vR 11 0 a0, vI x1, vI x2, vU, vU, vU] [] S M := by
  obtain ⟨e, rfl⟩ : ∃ e, d = e + 1 := ⟨d - 1, by omega⟩
  exact rfl
theorem c_Ca_mark {d : Nat} (hd : 1 ≤ d) (a0 : Nat) (S : Sp) (M : Mm) : callD d m_Ca_mark [vR 11 0 a0] S M = Run (callD (d - 1)) tb_Ca_mark 0 [vR 11 0 a0] [] S M := by
  obtain ⟨e, rfl⟩ : ∃ e, d = e + 1 := ⟨d - 1, by omega⟩
  exact rfl
theorem c_Ca_undo {d : Nat} (hd : 1 ≤ d) (a0 : Nat) (S : Sp) (M : Mm) : callD d m_Ca_undo [vR 11 0 a0] S M = Run (callD (d - 1)) tb_Ca_undo 0 [vR 11 0 a0] [] S M := by
  obtain ⟨e, rfl⟩ : ∃ e, d = e + 1 := ⟨d - 1, by omega⟩
  exact rfl
theorem c_Mo_init {d : Nat} (hd : 1 ≤ d) (a0 : Nat) (S : Sp) (M : Mm) : callD d m_Mo_init [vR 12 0 a0] S M = Run (callD (d - 1)) tb_Mo_init 0 [vR 12 0 a0] [] S M := by
  obtain ⟨e, rfl⟩ : ∃ e, d = e + 1 := ⟨d - 1, by omega⟩
  exact rfl
theorem c_Mo_plain {d : Nat} (hd : 1 ≤ d) (a0 : Nat) (x1 : Int) (S : Sp) (M : Mm) : callD d m_Mo_plain [vR 12 0 a0, vI x1] S M = Run (callD (d - 1)) tb_Mo_plain 0 [vR 12 0 a0, vI x1, vU] [] S M := by
  obtain ⟨e, rfl⟩ : ∃ e, d = e + 1 := ⟨d - 1, by omega⟩
  exact rfl
theorem c_Mo_status {d : Nat} (hd : 1 ≤ d) (a0 : Nat) (S : Sp) (M : Mm) : callD d m_Mo_status [vR 12 0 a0] S M = Run (callD (d - 1)) tb_Mo_status 0 [vR 12 0 a0] [] S M := by
  obtain ⟨e, rfl⟩ : ∃ e, d = e + 1 := ⟨d - 1, by omega⟩
  exact rfl
theorem c_Mo_top {d : Nat} (hd : 1 ≤ d) (a0 : Nat) (S : Sp) (M : Mm) : callD d m_Mo_top [vR 12 0 a0] S M = Run (callD (d - 1)) tb_Mo_top 0 [vR 12 0 a0] [] S M := by
  obtain ⟨e, rfl⟩ : ∃ e, d = e + 1 := ⟨d - 1, by omega⟩
  exact rfl
theorem c_Mo_bottom {d : Nat} (hd : 1 ≤ d) (a0 : Nat) (S : Sp) (M : Mm) : callD d m_Mo_bottom [vR 12 0 a0] S M = Run (callD (d - 1)) tb_Mo_bottom 0 [vR 12 0 a0] [] S M := by
  obtain ⟨e, rfl⟩ : ∃ e, d = e + 1 := ⟨d - 1, by omega⟩
  exact rfl
theorem c_Mo_tray {d : Nat} (hd : 1 ≤ d) (a0 : Nat) (x1 : Int) (x2 : Int) (x3 : Int) (S : Sp) (M : Mm) : callD d m_Mo_tray [vR 12 0 a0, vI x1, vI x2, vI x3] S M = Run (callD (d - 1)) tb_Mo_tray 0 [vR 12 0 a0, vI x1, vI x2, vI x3, vU] [] S M := by
  obtain ⟨e, rfl⟩ : ∃ e, d = e + 1 := ⟨d - 1, by omega⟩
  exact rfl
theorem c_Mo_isTray {d : Nat} (hd : 1 ≤ d) (x0 : Int) (S : Sp) (M : Mm) : callD d m_Mo_isTray [vI x0] S M = Run (callD (d - 1)) tb_Mo_isTray 0 [vI x0] [] S M := by
  obtain ⟨e, rfl⟩ : ∃ e, d = e + 1 := ⟨d - 1, by omega⟩
  exact rfl
theorem c_Mo_is {d : Nat} (hd : 1 ≤ d) (a0 : Nat) (x1 : Int) (S : Sp) (M : Mm) : callD d m_Mo_is [vR 12 0 a0, vI x1] S M = Run (callD (d - 1)) tb_Mo_is 0 [vR 12 0 a0, vI x1] [] S M := by
  obtain ⟨e, rfl⟩ : ∃ e, d = e + 1 := ⟨d - 1, by omega⟩
  exact rfl
theorem c_Mo_write {d : Nat} (hd : 1 ≤ d) (a0 : Nat) (x1 : Int) (x2 : Int) (x3 : Int) (S : Sp) (M : Mm) : callD d m_Mo_write [vR 12 0 a0, vI x1, vI x2, vL x3] S M = Run (callD (d - 1)) tb_Mo_write 0 [vR 12 0 a0, vI x1, vI x2, vL x3, vU, vU] [] S M := by
  obtain ⟨e, rfl⟩ : ∃ e, d = e + 1 := ⟨d - 1, by omega⟩
  exact rfl
theorem c_Mo_wrongPlace {d : Nat} (hd : 1 ≤ d) (a0 : Nat) (x1 : Int) (x2 : Int) (S : Sp) (M : Mm) : callD d m_Mo_wrongPlace [vR 12 0 a0, vI x1, vI x2] S M = Run (callD (d - 1)) tb_Mo_wrongPlace 0 [vR 12 0 a0, vI x1, vI x2] [] S M := by
  obtain ⟨e, rfl⟩ : ∃ e, d = e + 1 := ⟨d - 1, by omega⟩
  exact rfl
theorem c_Mo_cut {d : Nat} (hd : 1 ≤ d) (x0 : Int) (x2 : Int) (S : Sp) (M : Mm) : callD d m_Mo_cut [vL x0, vI x2] S M = Run (callD (d - 1)) tb_Mo_cut 0 [vL x0, vU, vI x2] [] S M := by
  obtain ⟨e, rfl⟩ : ∃ e, d = e + 1 := ⟨d - 1, by omega⟩
  exact rfl
theorem c_Mo_read {d : Nat} (hd : 1 ≤ d) (a0 : Nat) (x1 : Int) (x2 : Int) (S : Sp) (M : Mm) : callD d m_Mo_read [vR 12 0 a0, vI x1, vI x2] S M = Run (callD (d - 1)) tb_Mo_read 0 [vR 12 0 a0, vI x1, vI x2] [] S M := by
  obtain ⟨e, rfl⟩ : ∃ e, d = e + 1 := ⟨d - 1, by omega⟩
  exact rfl
theorem c_Mo_pour {d : Nat} (hd : 1 ≤ d) (a0 : Nat) (x1 : Int) (x2 : Int) (x3 : Int) (x4 : Int) (x5 : Int) (S : Sp) (M : Mm) : callD d m_Mo_pour [vR 12 0 a0, vI x1, vI x2, vI x3, vI x4, vI x5] S M = Run (callD (d - 1)) tb_Mo_pour 0 [vR 12 0 a0, vI x1, vI x2, vI x3, vI x4, vI x5, vU, vU] [] S M := by
  obtain ⟨e, rfl⟩ : ∃ e, d = e + 1 := ⟨d - 1, by omega⟩
  exact rfl
theorem c_Mo_feed {d : Nat} (hd : 1 ≤ d) (a0 : Nat) (x1 : Int) (x2 : Int) (x3 : Int) (x4 : Int) (x5 : Int) (S : Sp) (M : Mm) : callD d m_Mo_feed [vR 12 0 a0, vI x1, vI x2, vI x3, vI x4, vI x5] S M = Run (callD (d - 1)) tb_Mo_feed 0 [vR 12 0 a0, vI x1, vI x2, vI x3, vI x4, vI x5] [] S M := by
  obtain ⟨e, rfl⟩ : ∃ e, d = e + 1 := ⟨d - 1, by omega⟩
  exact rfl
theorem c_Mo_four {d : Nat} (hd : 1 ≤ d) (a0 : Nat) (x1 : Int) (S : Sp) (M : Mm) : callD d m_Mo_four [vR 12 0 a0, vI x1] S M = Run (callD (d - 1)) tb_Mo_four 0 [vR 12 0 a0, vI x1, vU] [] S M := by
  obtain ⟨e, rfl⟩ : ∃ e, d = e + 1 := ⟨d - 1, by omega⟩
  exact rfl
theorem c_Mo_fault {d : Nat} (hd : 1 ≤ d) (a0 : Nat) (x1 : Int) (S : Sp) (M : Mm) : callD d m_Mo_fault [vR 12 0 a0, vI x1] S M = Run (callD (d - 1)) tb_Mo_fault 0 [vR 12 0 a0, vI x1] [] S M := by
  obtain ⟨e, rfl⟩ : ∃ e, d = e + 1 := ⟨d - 1, by omega⟩
  exact rfl
theorem c_Mo_world {d : Nat} (hd : 1 ≤ d) (a0 : Nat) (x1 : Int) (S : Sp) (M : Mm) : callD d m_Mo_world [vR 12 0 a0, vI x1] S M = Run (callD (d - 1)) tb_Mo_world 0 [vR 12 0 a0, vI x1, vU, vU] [] S M := by
  obtain ⟨e, rfl⟩ : ∃ e, d = e + 1 := ⟨d - 1, by omega⟩
  exact rfl
theorem c_Mo_begins {d : Nat} (hd : 1 ≤ d) (a0 : Nat) (x1 : Int) (x2 : Int) (S : Sp) (M : Mm) : callD d m_Mo_begins [vR 12 0 a0, vI x1, vI x2] S M = Run (callD (d - 1)) tb_Mo_begins 0 [vR 12 0 a0, vI x1, vI x2, vU] [] S M := by
  obtain ⟨e, rfl⟩ : ∃ e, d = e + 1 := ⟨d - 1, by omega⟩
  exact rfl
theorem c_Mo_ahead {d : Nat} (hd : 1 ≤ d) (a0 : Nat) (S : Sp) (M : Mm) : callD d m_Mo_ahead [vR 12 0 a0] S M = Run (callD (d - 1)) tb_Mo_ahead 0 [vR 12 0 a0, vU] [] S M := by
  obtain ⟨e, rfl⟩ : ∃ e, d = e + 1 := ⟨d - 1, by omega⟩
  exact rfl
theorem c_Mo_byteAt {d : Nat} (hd : 1 ≤ d) (a0 : Nat) (x1 : Int) (S : Sp) (M : Mm) : callD d m_Mo_byteAt [vR 12 0 a0, vI x1] S M = Run (callD (d - 1)) tb_Mo_byteAt 0 [vR 12 0 a0, vI x1] [] S M := by
  obtain ⟨e, rfl⟩ : ∃ e, d = e + 1 := ⟨d - 1, by omega⟩
  exact rfl
theorem c_Mo_isSmall {d : Nat} (hd : 1 ≤ d) (x0 : Int) (S : Sp) (M : Mm) : callD d m_Mo_isSmall [vI x0] S M = Run (callD (d - 1)) tb_Mo_isSmall 0 [vI x0] [] S M := by
  obtain ⟨e, rfl⟩ : ∃ e, d = e + 1 := ⟨d - 1, by omega⟩
  exact rfl
theorem c_Mo_isDigit {d : Nat} (hd : 1 ≤ d) (x0 : Int) (S : Sp) (M : Mm) : callD d m_Mo_isDigit [vI x0] S M = Run (callD (d - 1)) tb_Mo_isDigit 0 [vI x0] [] S M := by
  obtain ⟨e, rfl⟩ : ∃ e, d = e + 1 := ⟨d - 1, by omega⟩
  exact rfl
theorem c_Mo_refuse {d : Nat} (hd : 1 ≤ d) (a0 : Nat) (x1 : Int) (S : Sp) (M : Mm) : callD d m_Mo_refuse [vR 12 0 a0, vI x1] S M = Run (callD (d - 1)) tb_Mo_refuse 0 [vR 12 0 a0, vI x1] [] S M := by
  obtain ⟨e, rfl⟩ : ∃ e, d = e + 1 := ⟨d - 1, by omega⟩
  exact rfl
theorem c_Mo_worldPart {d : Nat} (hd : 1 ≤ d) (a0 : Nat) (S : Sp) (M : Mm) : callD d m_Mo_worldPart [vR 12 0 a0] S M = Run (callD (d - 1)) tb_Mo_worldPart 0 [vR 12 0 a0, vU] [] S M := by
  obtain ⟨e, rfl⟩ : ∃ e, d = e + 1 := ⟨d - 1, by omega⟩
  exact rfl
theorem c_Mo_inWords {d : Nat} (hd : 1 ≤ d) (a0 : Nat) (a1 : Nat) (n1 : Int) (S : Sp) (M : Mm) : callD d m_Mo_inWords [vR 12 0 a0, vR 13 n1 a1] S M = Run (callD (d - 1)) tb_Mo_inWords 0 [vR 12 0 a0, vR 13 n1 a1, vU, vU, vU, vU, vU] [] S M := by
  obtain ⟨e, rfl⟩ : ∃ e, d = e + 1 := ⟨d - 1, by omega⟩
  exact rfl
theorem c_Mo_aNation {d : Nat} (hd : 1 ≤ d) (a0 : Nat) (S : Sp) (M : Mm) : callD d m_Mo_aNation [vR 12 0 a0] S M = Run (callD (d - 1)) tb_Mo_aNation 0 [vR 12 0 a0, vU] [] S M := by
  obtain ⟨e, rfl⟩ : ∃ e, d = e + 1 := ⟨d - 1, by omega⟩
  exact rfl
theorem c_Mo_newOne {d : Nat} (hd : 1 ≤ d) (a0 : Nat) (x1 : Int) (x2 : Int) (x3 : Int) (S : Sp) (M : Mm) : callD d m_Mo_newOne [vR 12 0 a0, vI x1, vI x2, vI x3] S M = Run (callD (d - 1)) tb_Mo_newOne 0 [vR 12 0 a0, vI x1, vI x2, vI x3] [] S M := by
  obtain ⟨e, rfl⟩ : ∃ e, d = e + 1 := ⟨d - 1, by omega⟩
  exact rfl
theorem c_Mo_fails {d : Nat} (hd : 1 ≤ d) (a0 : Nat) (x1 : Int) (S : Sp) (M : Mm) : callD d m_Mo_fails [vR 12 0 a0, vI x1] S M = Run (callD (d - 1)) tb_Mo_fails 0 [vR 12 0 a0, vI x1] [] S M := by
  obtain ⟨e, rfl⟩ : ∃ e, d = e + 1 := ⟨d - 1, by omega⟩
  exact rfl
theorem c_Mo_isName {d : Nat} (hd : 1 ≤ d) (a0 : Nat) (a1 : Nat) (n1 : Int) (S : Sp) (M : Mm) : callD d m_Mo_isName [vR 12 0 a0, vR 13 n1 a1] S M = Run (callD (d - 1)) tb_Mo_isName 0 [vR 12 0 a0, vR 13 n1 a1] [] S M := by
  obtain ⟨e, rfl⟩ : ∃ e, d = e + 1 := ⟨d - 1, by omega⟩
  exact rfl
theorem c_Mo_findHere {d : Nat} (hd : 1 ≤ d) (a0 : Nat) (x1 : Int) (x2 : Int) (S : Sp) (M : Mm) : callD d m_Mo_findHere [vR 12 0 a0, vI x1, vI x2] S M = Run (callD (d - 1)) tb_Mo_findHere 0 [vR 12 0 a0, vI x1, vI x2, vU] [] S M := by
  obtain ⟨e, rfl⟩ : ∃ e, d = e + 1 := ⟨d - 1, by omega⟩
  exact rfl
theorem c_Mo_nameHere {d : Nat} (hd : 1 ≤ d) (a0 : Nat) (S : Sp) (M : Mm) : callD d m_Mo_nameHere [vR 12 0 a0] S M = Run (callD (d - 1)) tb_Mo_nameHere 0 [vR 12 0 a0, vU, vU, vU] [] S M := by
  obtain ⟨e, rfl⟩ : ∃ e, d = e + 1 := ⟨d - 1, by omega⟩
  exact rfl
theorem c_Mo_isThere {d : Nat} (hd : 1 ≤ d) (a0 : Nat) (x1 : Int) (S : Sp) (M : Mm) : callD d m_Mo_isThere [vR 12 0 a0, vI x1] S M = Run (callD (d - 1)) tb_Mo_isThere 0 [vR 12 0 a0, vI x1] [] S M := by
  obtain ⟨e, rfl⟩ : ∃ e, d = e + 1 := ⟨d - 1, by omega⟩
  exact rfl
theorem c_Mo_number {d : Nat} (hd : 1 ≤ d) (a0 : Nat) (x1 : Int) (x2 : Int) (x3 : Int) (S : Sp) (M : Mm) : callD d m_Mo_number [vR 12 0 a0, vI x1, vI x2, vI x3] S M = Run (callD (d - 1)) tb_Mo_number 0 [vR 12 0 a0, vI x1, vI x2, vI x3] [] S M := by
  obtain ⟨e, rfl⟩ : ∃ e, d = e + 1 := ⟨d - 1, by omega⟩
  exact rfl
theorem c_Mo_aCouple {d : Nat} (hd : 1 ≤ d) (a0 : Nat) (x1 : Int) (S : Sp) (M : Mm) : callD d m_Mo_aCouple [vR 12 0 a0, vI x1] S M = Run (callD (d - 1)) tb_Mo_aCouple 0 [vR 12 0 a0, vI x1, vU] [] S M := by
  obtain ⟨e, rfl⟩ : ∃ e, d = e + 1 := ⟨d - 1, by omega⟩
  exact rfl
theorem c_Mo_nationTo {d : Nat} (hd : 1 ≤ d) (a0 : Nat) (x1 : Int) (S : Sp) (M : Mm) : callD d m_Mo_nationTo [vR 12 0 a0, vI x1] S M = Run (callD (d - 1)) tb_Mo_nationTo 0 [vR 12 0 a0, vI x1] [] S M := by
  obtain ⟨e, rfl⟩ : ∃ e, d = e + 1 := ⟨d - 1, by omega⟩
  exact rfl
theorem c_Mo_oldOne {d : Nat} (hd : 1 ≤ d) (a0 : Nat) (x1 : Int) (x2 : Int) (x3 : Int) (S : Sp) (M : Mm) : callD d m_Mo_oldOne [vR 12 0 a0, vI x1, vI x2, vI x3] S M = Run (callD (d - 1)) tb_Mo_oldOne 0 [vR 12 0 a0, vI x1, vI x2, vI x3] [] S M := by
  obtain ⟨e, rfl⟩ : ∃ e, d = e + 1 := ⟨d - 1, by omega⟩
  exact rfl
theorem c_Mo_portTo {d : Nat} (hd : 1 ≤ d) (a0 : Nat) (x1 : Int) (S : Sp) (M : Mm) : callD d m_Mo_portTo [vR 12 0 a0, vI x1] S M = Run (callD (d - 1)) tb_Mo_portTo 0 [vR 12 0 a0, vI x1] [] S M := by
  obtain ⟨e, rfl⟩ : ∃ e, d = e + 1 := ⟨d - 1, by omega⟩
  exact rfl
theorem c_Mo_wantWord {d : Nat} (hd : 1 ≤ d) (a0 : Nat) (a1 : Nat) (n1 : Int) (x2 : Int) (S : Sp) (M : Mm) : callD d m_Mo_wantWord [vR 12 0 a0, vR 13 n1 a1, vI x2] S M = Run (callD (d - 1)) tb_Mo_wantWord 0 [vR 12 0 a0, vR 13 n1 a1, vI x2] [] S M := by
  obtain ⟨e, rfl⟩ : ∃ e, d = e + 1 := ⟨d - 1, by omega⟩
  exact rfl
theorem c_Mo_aGood {d : Nat} (hd : 1 ≤ d) (a0 : Nat) (S : Sp) (M : Mm) : callD d m_Mo_aGood [vR 12 0 a0] S M = Run (callD (d - 1)) tb_Mo_aGood 0 [vR 12 0 a0, vU] [] S M := by
  obtain ⟨e, rfl⟩ : ∃ e, d = e + 1 := ⟨d - 1, by omega⟩
  exact rfl
theorem c_Mo_aPort {d : Nat} (hd : 1 ≤ d) (a0 : Nat) (S : Sp) (M : Mm) : callD d m_Mo_aPort [vR 12 0 a0] S M = Run (callD (d - 1)) tb_Mo_aPort 0 [vR 12 0 a0, vU] [] S M := by
  obtain ⟨e, rfl⟩ : ∃ e, d = e + 1 := ⟨d - 1, by omega⟩
  exact rfl
theorem c_Mo_aPrice {d : Nat} (hd : 1 ≤ d) (a0 : Nat) (S : Sp) (M : Mm) : callD d m_Mo_aPrice [vR 12 0 a0] S M = Run (callD (d - 1)) tb_Mo_aPrice 0 [vR 12 0 a0, vU] [] S M := by
  obtain ⟨e, rfl⟩ : ∃ e, d = e + 1 := ⟨d - 1, by omega⟩
  exact rfl
theorem c_Mo_goodTo {d : Nat} (hd : 1 ≤ d) (a0 : Nat) (x1 : Int) (S : Sp) (M : Mm) : callD d m_Mo_goodTo [vR 12 0 a0, vI x1] S M = Run (callD (d - 1)) tb_Mo_goodTo 0 [vR 12 0 a0, vI x1] [] S M := by
  obtain ⟨e, rfl⟩ : ∃ e, d = e + 1 := ⟨d - 1, by omega⟩
  exact rfl
theorem c_Mo_aShip {d : Nat} (hd : 1 ≤ d) (a0 : Nat) (S : Sp) (M : Mm) : callD d m_Mo_aShip [vR 12 0 a0] S M = Run (callD (d - 1)) tb_Mo_aShip 0 [vR 12 0 a0, vU] [] S M := by
  obtain ⟨e, rfl⟩ : ∃ e, d = e + 1 := ⟨d - 1, by omega⟩
  exact rfl
theorem c_Mo_aLoad {d : Nat} (hd : 1 ≤ d) (a0 : Nat) (S : Sp) (M : Mm) : callD d m_Mo_aLoad [vR 12 0 a0] S M = Run (callD (d - 1)) tb_Mo_aLoad 0 [vR 12 0 a0, vU, vU, vU, vU] [] S M := by
  obtain ⟨e, rfl⟩ : ∃ e, d = e + 1 := ⟨d - 1, by omega⟩
  exact rfl
theorem c_Mo_wantSign {d : Nat} (hd : 1 ≤ d) (a0 : Nat) (x1 : Int) (S : Sp) (M : Mm) : callD d m_Mo_wantSign [vR 12 0 a0, vI x1] S M = Run (callD (d - 1)) tb_Mo_wantSign 0 [vR 12 0 a0, vI x1] [] S M := by
  obtain ⟨e, rfl⟩ : ∃ e, d = e + 1 := ⟨d - 1, by omega⟩
  exact rfl
theorem c_Mo_isSign {d : Nat} (hd : 1 ≤ d) (a0 : Nat) (x1 : Int) (S : Sp) (M : Mm) : callD d m_Mo_isSign [vR 12 0 a0, vI x1] S M = Run (callD (d - 1)) tb_Mo_isSign 0 [vR 12 0 a0, vI x1] [] S M := by
  obtain ⟨e, rfl⟩ : ∃ e, d = e + 1 := ⟨d - 1, by omega⟩
  exact rfl
theorem c_Mo_taken {d : Nat} (hd : 1 ≤ d) (a0 : Nat) (x1 : Int) (S : Sp) (M : Mm) : callD d m_Mo_taken [vR 12 0 a0, vI x1] S M = Run (callD (d - 1)) tb_Mo_taken 0 [vR 12 0 a0, vI x1] [] S M := by
  obtain ⟨e, rfl⟩ : ∃ e, d = e + 1 := ⟨d - 1, by omega⟩
  exact rfl
theorem c_Mo_gives {d : Nat} (hd : 1 ≤ d) (a0 : Nat) (x1 : Int) (S : Sp) (M : Mm) : callD d m_Mo_gives [vR 12 0 a0, vI x1] S M = Run (callD (d - 1)) tb_Mo_gives 0 [vR 12 0 a0, vI x1] [] S M := by
  obtain ⟨e, rfl⟩ : ∃ e, d = e + 1 := ⟨d - 1, by omega⟩
  exact rfl
theorem c_Mo_voyages {d : Nat} (hd : 1 ≤ d) (a0 : Nat) (x1 : Int) (S : Sp) (M : Mm) : callD d m_Mo_voyages [vR 12 0 a0, vI x1] S M = Run (callD (d - 1)) tb_Mo_voyages 0 [vR 12 0 a0, vI x1, vU, vU] [] S M := by
  obtain ⟨e, rfl⟩ : ∃ e, d = e + 1 := ⟨d - 1, by omega⟩
  exact rfl
theorem c_Mo_voyageStep {d : Nat} (hd : 1 ≤ d) (a0 : Nat) (S : Sp) (M : Mm) : callD d m_Mo_voyageStep [vR 12 0 a0] S M = Run (callD (d - 1)) tb_Mo_voyageStep 0 [vR 12 0 a0, vU, vU, vU, vU, vU] [] S M := by
  obtain ⟨e, rfl⟩ : ∃ e, d = e + 1 := ⟨d - 1, by omega⟩
  exact rfl
theorem c_Mo_voyageOrder {d : Nat} (hd : 1 ≤ d) (a0 : Nat) (x1 : Int) (x2 : Int) (S : Sp) (M : Mm) : callD d m_Mo_voyageOrder [vR 12 0 a0, vI x1, vI x2] S M = Run (callD (d - 1)) tb_Mo_voyageOrder 0 [vR 12 0 a0, vI x1, vI x2] [] S M := by
  obtain ⟨e, rfl⟩ : ∃ e, d = e + 1 := ⟨d - 1, by omega⟩
  exact rfl
theorem c_Mo_shipTo {d : Nat} (hd : 1 ≤ d) (a0 : Nat) (x1 : Int) (S : Sp) (M : Mm) : callD d m_Mo_shipTo [vR 12 0 a0, vI x1] S M = Run (callD (d - 1)) tb_Mo_shipTo 0 [vR 12 0 a0, vI x1] [] S M := by
  obtain ⟨e, rfl⟩ : ∃ e, d = e + 1 := ⟨d - 1, by omega⟩
  exact rfl
theorem c_Mo_oldPortTo {d : Nat} (hd : 1 ≤ d) (a0 : Nat) (x1 : Int) (S : Sp) (M : Mm) : callD d m_Mo_oldPortTo [vR 12 0 a0, vI x1] S M = Run (callD (d - 1)) tb_Mo_oldPortTo 0 [vR 12 0 a0, vI x1] [] S M := by
  obtain ⟨e, rfl⟩ : ∃ e, d = e + 1 := ⟨d - 1, by omega⟩
  exact rfl
theorem c_Mo_test {d : Nat} (hd : 1 ≤ d) (a0 : Nat) (x1 : Int) (S : Sp) (M : Mm) : callD d m_Mo_test [vR 12 0 a0, vI x1] S M = Run (callD (d - 1)) tb_Mo_test 0 [vR 12 0 a0, vI x1, vU] [] S M := by
  obtain ⟨e, rfl⟩ : ∃ e, d = e + 1 := ⟨d - 1, by omega⟩
  exact rfl
theorem c_Mo_told {d : Nat} (hd : 1 ≤ d) (a0 : Nat) (x1 : Int) (S : Sp) (M : Mm) : callD d m_Mo_told [vR 12 0 a0, vI x1] S M = Run (callD (d - 1)) tb_Mo_told 0 [vR 12 0 a0, vI x1] [] S M := by
  obtain ⟨e, rfl⟩ : ∃ e, d = e + 1 := ⟨d - 1, by omega⟩
  exact rfl
theorem c_Mo_ofShips {d : Nat} (hd : 1 ≤ d) (a0 : Nat) (x1 : Int) (S : Sp) (M : Mm) : callD d m_Mo_ofShips [vR 12 0 a0, vI x1] S M = Run (callD (d - 1)) tb_Mo_ofShips 0 [vR 12 0 a0, vI x1, vU, vU] [] S M := by
  obtain ⟨e, rfl⟩ : ∃ e, d = e + 1 := ⟨d - 1, by omega⟩
  exact rfl
theorem c_Mo_shipOf {d : Nat} (hd : 1 ≤ d) (a0 : Nat) (x1 : Int) (x2 : Int) (S : Sp) (M : Mm) : callD d m_Mo_shipOf [vR 12 0 a0, vI x1, vI x2] S M = Run (callD (d - 1)) tb_Mo_shipOf 0 [vR 12 0 a0, vI x1, vI x2] [] S M := by
  obtain ⟨e, rfl⟩ : ∃ e, d = e + 1 := ⟨d - 1, by omega⟩
  exact rfl
theorem c_Mo_shipRow {d : Nat} (hd : 1 ≤ d) (x0 : Int) (S : Sp) (M : Mm) : callD d m_Mo_shipRow [vI x0] S M = Run (callD (d - 1)) tb_Mo_shipRow 0 [vI x0] [] S M := by
  obtain ⟨e, rfl⟩ : ∃ e, d = e + 1 := ⟨d - 1, by omega⟩
  exact rfl
theorem c_Mo_flagOf {d : Nat} (hd : 1 ≤ d) (a0 : Nat) (x1 : Int) (S : Sp) (M : Mm) : callD d m_Mo_flagOf [vR 12 0 a0, vI x1] S M = Run (callD (d - 1)) tb_Mo_flagOf 0 [vR 12 0 a0, vI x1] [] S M := by
  obtain ⟨e, rfl⟩ : ∃ e, d = e + 1 := ⟨d - 1, by omega⟩
  exact rfl
theorem c_Mo_loads {d : Nat} (hd : 1 ≤ d) (a0 : Nat) (x1 : Int) (S : Sp) (M : Mm) : callD d m_Mo_loads [vR 12 0 a0, vI x1] S M = Run (callD (d - 1)) tb_Mo_loads 0 [vR 12 0 a0, vI x1, vU] [] S M := by
  obtain ⟨e, rfl⟩ : ∃ e, d = e + 1 := ⟨d - 1, by omega⟩
  exact rfl
theorem c_Mo_flag {d : Nat} (hd : 1 ≤ d) (a0 : Nat) (S : Sp) (M : Mm) : callD d m_Mo_flag [vR 12 0 a0] S M = Run (callD (d - 1)) tb_Mo_flag 0 [vR 12 0 a0] [] S M := by
  obtain ⟨e, rfl⟩ : ∃ e, d = e + 1 := ⟨d - 1, by omega⟩
  exact rfl
theorem c_Mo_captainsNow {d : Nat} (hd : 1 ≤ d) (a0 : Nat) (S : Sp) (M : Mm) : callD d m_Mo_captainsNow [vR 12 0 a0] S M = Run (callD (d - 1)) tb_Mo_captainsNow 0 [vR 12 0 a0] [] S M := by
  obtain ⟨e, rfl⟩ : ∃ e, d = e + 1 := ⟨d - 1, by omega⟩
  exact rfl
theorem c_Mo_captainsBy {d : Nat} (hd : 1 ≤ d) (a0 : Nat) (x1 : Int) (S : Sp) (M : Mm) : callD d m_Mo_captainsBy [vR 12 0 a0, vI x1] S M = Run (callD (d - 1)) tb_Mo_captainsBy 0 [vR 12 0 a0, vI x1, vU, vU, vU] [] S M := by
  obtain ⟨e, rfl⟩ : ∃ e, d = e + 1 := ⟨d - 1, by omega⟩
  exact rfl
theorem c_Mo_weightOf {d : Nat} (hd : 1 ≤ d) (a0 : Nat) (x1 : Int) (x2 : Int) (S : Sp) (M : Mm) : callD d m_Mo_weightOf [vR 12 0 a0, vI x1, vI x2] S M = Run (callD (d - 1)) tb_Mo_weightOf 0 [vR 12 0 a0, vI x1, vI x2, vU, vU] [] S M := by
  obtain ⟨e, rfl⟩ : ∃ e, d = e + 1 := ⟨d - 1, by omega⟩
  exact rfl
theorem c_Mo_goodRow {d : Nat} (hd : 1 ≤ d) (x0 : Int) (S : Sp) (M : Mm) : callD d m_Mo_goodRow [vI x0] S M = Run (callD (d - 1)) tb_Mo_goodRow 0 [vI x0] [] S M := by
  obtain ⟨e, rfl⟩ : ∃ e, d = e + 1 := ⟨d - 1, by omega⟩
  exact rfl
theorem c_Mo_onlyOne {d : Nat} (hd : 1 ≤ d) (x0 : Int) (S : Sp) (M : Mm) : callD d m_Mo_onlyOne [vI x0] S M = Run (callD (d - 1)) tb_Mo_onlyOne 0 [vI x0] [] S M := by
  obtain ⟨e, rfl⟩ : ∃ e, d = e + 1 := ⟨d - 1, by omega⟩
  exact rfl
theorem c_Mo_bits {d : Nat} (hd : 1 ≤ d) (x0 : Int) (S : Sp) (M : Mm) : callD d m_Mo_bits [vI x0] S M = Run (callD (d - 1)) tb_Mo_bits 0 [vI x0, vU, vU] [] S M := by
  obtain ⟨e, rfl⟩ : ∃ e, d = e + 1 := ⟨d - 1, by omega⟩
  exact rfl
theorem c_Mo_lowest {d : Nat} (hd : 1 ≤ d) (x0 : Int) (S : Sp) (M : Mm) : callD d m_Mo_lowest [vI x0] S M = Run (callD (d - 1)) tb_Mo_lowest 0 [vI x0, vU] [] S M := by
  obtain ⟨e, rfl⟩ : ∃ e, d = e + 1 := ⟨d - 1, by omega⟩
  exact rfl
theorem c_Mo_tonsOf {d : Nat} (hd : 1 ≤ d) (a0 : Nat) (x1 : Int) (S : Sp) (M : Mm) : callD d m_Mo_tonsOf [vR 12 0 a0, vI x1] S M = Run (callD (d - 1)) tb_Mo_tonsOf 0 [vR 12 0 a0, vI x1] [] S M := by
  obtain ⟨e, rfl⟩ : ∃ e, d = e + 1 := ⟨d - 1, by omega⟩
  exact rfl
theorem c_Mo_tons {d : Nat} (hd : 1 ≤ d) (a0 : Nat) (S : Sp) (M : Mm) : callD d m_Mo_tons [vR 12 0 a0] S M = Run (callD (d - 1)) tb_Mo_tons 0 [vR 12 0 a0, vU, vU] [] S M := by
  obtain ⟨e, rfl⟩ : ∃ e, d = e + 1 := ⟨d - 1, by omega⟩
  exact rfl
theorem c_Mo_nation {d : Nat} (hd : 1 ≤ d) (a0 : Nat) (x1 : Int) (x2 : Int) (S : Sp) (M : Mm) : callD d m_Mo_nation [vR 12 0 a0, vI x1, vI x2] S M = Run (callD (d - 1)) tb_Mo_nation 0 [vR 12 0 a0, vI x1, vI x2] [] S M := by
  obtain ⟨e, rfl⟩ : ∃ e, d = e + 1 := ⟨d - 1, by omega⟩
  exact rfl
theorem c_Mo_isNation {d : Nat} (hd : 1 ≤ d) (a0 : Nat) (x1 : Int) (S : Sp) (M : Mm) : callD d m_Mo_isNation [vR 12 0 a0, vI x1] S M = Run (callD (d - 1)) tb_Mo_isNation 0 [vR 12 0 a0, vI x1] [] S M := by
  obtain ⟨e, rfl⟩ : ∃ e, d = e + 1 := ⟨d - 1, by omega⟩
  exact rfl
theorem c_Mo_nationRow {d : Nat} (hd : 1 ≤ d) (x0 : Int) (S : Sp) (M : Mm) : callD d m_Mo_nationRow [vI x0] S M = Run (callD (d - 1)) tb_Mo_nationRow 0 [vI x0] [] S M := by
  obtain ⟨e, rfl⟩ : ∃ e, d = e + 1 := ⟨d - 1, by omega⟩
  exact rfl
theorem c_Mo_good {d : Nat} (hd : 1 ≤ d) (a0 : Nat) (x1 : Int) (x2 : Int) (S : Sp) (M : Mm) : callD d m_Mo_good [vR 12 0 a0, vI x1, vI x2] S M = Run (callD (d - 1)) tb_Mo_good 0 [vR 12 0 a0, vI x1, vI x2] [] S M := by
  obtain ⟨e, rfl⟩ : ∃ e, d = e + 1 := ⟨d - 1, by omega⟩
  exact rfl
theorem c_Mo_isGood {d : Nat} (hd : 1 ≤ d) (a0 : Nat) (x1 : Int) (S : Sp) (M : Mm) : callD d m_Mo_isGood [vR 12 0 a0, vI x1] S M = Run (callD (d - 1)) tb_Mo_isGood 0 [vR 12 0 a0, vI x1] [] S M := by
  obtain ⟨e, rfl⟩ : ∃ e, d = e + 1 := ⟨d - 1, by omega⟩
  exact rfl
theorem c_Mo_portOf {d : Nat} (hd : 1 ≤ d) (a0 : Nat) (x1 : Int) (S : Sp) (M : Mm) : callD d m_Mo_portOf [vR 12 0 a0, vI x1] S M = Run (callD (d - 1)) tb_Mo_portOf 0 [vR 12 0 a0, vI x1] [] S M := by
  obtain ⟨e, rfl⟩ : ∃ e, d = e + 1 := ⟨d - 1, by omega⟩
  exact rfl
theorem c_Mo_isPort {d : Nat} (hd : 1 ≤ d) (a0 : Nat) (x1 : Int) (S : Sp) (M : Mm) : callD d m_Mo_isPort [vR 12 0 a0, vI x1] S M = Run (callD (d - 1)) tb_Mo_isPort 0 [vR 12 0 a0, vI x1] [] S M := by
  obtain ⟨e, rfl⟩ : ∃ e, d = e + 1 := ⟨d - 1, by omega⟩
  exact rfl
theorem c_Mo_portRow {d : Nat} (hd : 1 ≤ d) (x0 : Int) (S : Sp) (M : Mm) : callD d m_Mo_portRow [vI x0] S M = Run (callD (d - 1)) tb_Mo_portRow 0 [vI x0] [] S M := by
  obtain ⟨e, rfl⟩ : ∃ e, d = e + 1 := ⟨d - 1, by omega⟩
  exact rfl
theorem c_Mo_orNone {d : Nat} (hd : 1 ≤ d) (a0 : Nat) (x1 : Int) (S : Sp) (M : Mm) : callD d m_Mo_orNone [vR 12 0 a0, vI x1] S M = Run (callD (d - 1)) tb_Mo_orNone 0 [vR 12 0 a0, vI x1] [] S M := by
  obtain ⟨e, rfl⟩ : ∃ e, d = e + 1 := ⟨d - 1, by omega⟩
  exact rfl
theorem c_Mo_price {d : Nat} (hd : 1 ≤ d) (a0 : Nat) (x1 : Int) (x2 : Int) (S : Sp) (M : Mm) : callD d m_Mo_price [vR 12 0 a0, vI x1, vI x2] S M = Run (callD (d - 1)) tb_Mo_price 0 [vR 12 0 a0, vI x1, vI x2] [] S M := by
  obtain ⟨e, rfl⟩ : ∃ e, d = e + 1 := ⟨d - 1, by omega⟩
  exact rfl
theorem c_Mo_priceOf {d : Nat} (hd : 1 ≤ d) (a0 : Nat) (x1 : Int) (x2 : Int) (S : Sp) (M : Mm) : callD d m_Mo_priceOf [vR 12 0 a0, vI x1, vI x2] S M = Run (callD (d - 1)) tb_Mo_priceOf 0 [vR 12 0 a0, vI x1, vI x2] [] S M := by
  obtain ⟨e, rfl⟩ : ∃ e, d = e + 1 := ⟨d - 1, by omega⟩
  exact rfl
theorem c_Mo_orNothing {d : Nat} (hd : 1 ≤ d) (a0 : Nat) (x1 : Int) (S : Sp) (M : Mm) : callD d m_Mo_orNothing [vR 12 0 a0, vI x1] S M = Run (callD (d - 1)) tb_Mo_orNothing 0 [vR 12 0 a0, vI x1] [] S M := by
  obtain ⟨e, rfl⟩ : ∃ e, d = e + 1 := ⟨d - 1, by omega⟩
  exact rfl
theorem c_Mo_way {d : Nat} (hd : 1 ≤ d) (a0 : Nat) (x1 : Int) (x2 : Int) (S : Sp) (M : Mm) : callD d m_Mo_way [vR 12 0 a0, vI x1, vI x2] S M = Run (callD (d - 1)) tb_Mo_way 0 [vR 12 0 a0, vI x1, vI x2] [] S M := by
  obtain ⟨e, rfl⟩ : ∃ e, d = e + 1 := ⟨d - 1, by omega⟩
  exact rfl
theorem c_Mo_areTwo {d : Nat} (hd : 1 ≤ d) (a0 : Nat) (x1 : Int) (x2 : Int) (S : Sp) (M : Mm) : callD d m_Mo_areTwo [vR 12 0 a0, vI x1, vI x2] S M = Run (callD (d - 1)) tb_Mo_areTwo 0 [vR 12 0 a0, vI x1, vI x2] [] S M := by
  obtain ⟨e, rfl⟩ : ∃ e, d = e + 1 := ⟨d - 1, by omega⟩
  exact rfl
theorem c_Mo_wayOf {d : Nat} (hd : 1 ≤ d) (a0 : Nat) (x1 : Int) (x2 : Int) (S : Sp) (M : Mm) : callD d m_Mo_wayOf [vR 12 0 a0, vI x1, vI x2] S M = Run (callD (d - 1)) tb_Mo_wayOf 0 [vR 12 0 a0, vI x1, vI x2] [] S M := by
  obtain ⟨e, rfl⟩ : ∃ e, d = e + 1 := ⟨d - 1, by omega⟩
  exact rfl
theorem c_Mo_ship {d : Nat} (hd : 1 ≤ d) (a0 : Nat) (x1 : Int) (x2 : Int) (S : Sp) (M : Mm) : callD d m_Mo_ship [vR 12 0 a0, vI x1, vI x2] S M = Run (callD (d - 1)) tb_Mo_ship 0 [vR 12 0 a0, vI x1, vI x2] [] S M := by
  obtain ⟨e, rfl⟩ : ∃ e, d = e + 1 := ⟨d - 1, by omega⟩
  exact rfl
theorem c_Mo_isShip {d : Nat} (hd : 1 ≤ d) (a0 : Nat) (x1 : Int) (S : Sp) (M : Mm) : callD d m_Mo_isShip [vR 12 0 a0, vI x1] S M = Run (callD (d - 1)) tb_Mo_isShip 0 [vR 12 0 a0, vI x1] [] S M := by
  obtain ⟨e, rfl⟩ : ∃ e, d = e + 1 := ⟨d - 1, by omega⟩
  exact rfl
theorem c_Mo_aboard {d : Nat} (hd : 1 ≤ d) (a0 : Nat) (x1 : Int) (x2 : Int) (S : Sp) (M : Mm) : callD d m_Mo_aboard [vR 12 0 a0, vI x1, vI x2] S M = Run (callD (d - 1)) tb_Mo_aboard 0 [vR 12 0 a0, vI x1, vI x2] [] S M := by
  obtain ⟨e, rfl⟩ : ∃ e, d = e + 1 := ⟨d - 1, by omega⟩
  exact rfl
theorem c_Mo_weight {d : Nat} (hd : 1 ≤ d) (a0 : Nat) (x1 : Int) (x2 : Int) (S : Sp) (M : Mm) : callD d m_Mo_weight [vR 12 0 a0, vI x1, vI x2] S M = Run (callD (d - 1)) tb_Mo_weight 0 [vR 12 0 a0, vI x1, vI x2] [] S M := by
  obtain ⟨e, rfl⟩ : ∃ e, d = e + 1 := ⟨d - 1, by omega⟩
  exact rfl
theorem c_Mo_weightBy {d : Nat} (hd : 1 ≤ d) (a0 : Nat) (x1 : Int) (x2 : Int) (x3 : Int) (S : Sp) (M : Mm) : callD d m_Mo_weightBy [vR 12 0 a0, vI x1, vI x2, vI x3] S M = Run (callD (d - 1)) tb_Mo_weightBy 0 [vR 12 0 a0, vI x1, vI x2, vI x3] [] S M := by
  obtain ⟨e, rfl⟩ : ∃ e, d = e + 1 := ⟨d - 1, by omega⟩
  exact rfl
theorem c_Mo_isRule {d : Nat} (hd : 1 ≤ d) (x0 : Int) (S : Sp) (M : Mm) : callD d m_Mo_isRule [vI x0] S M = Run (callD (d - 1)) tb_Mo_isRule 0 [vI x0] [] S M := by
  obtain ⟨e, rfl⟩ : ∃ e, d = e + 1 := ⟨d - 1, by omega⟩
  exact rfl
theorem c_Mo_captains {d : Nat} (hd : 1 ≤ d) (a0 : Nat) (x1 : Int) (S : Sp) (M : Mm) : callD d m_Mo_captains [vR 12 0 a0, vI x1] S M = Run (callD (d - 1)) tb_Mo_captains 0 [vR 12 0 a0, vI x1] [] S M := by
  obtain ⟨e, rfl⟩ : ∃ e, d = e + 1 := ⟨d - 1, by omega⟩
  exact rfl
theorem c_Mo_captainsOf {d : Nat} (hd : 1 ≤ d) (a0 : Nat) (x1 : Int) (x2 : Int) (S : Sp) (M : Mm) : callD d m_Mo_captainsOf [vR 12 0 a0, vI x1, vI x2] S M = Run (callD (d - 1)) tb_Mo_captainsOf 0 [vR 12 0 a0, vI x1, vI x2] [] S M := by
  obtain ⟨e, rfl⟩ : ∃ e, d = e + 1 := ⟨d - 1, by omega⟩
  exact rfl
theorem c_Mo_ruled {d : Nat} (hd : 1 ≤ d) (a0 : Nat) (x1 : Int) (S : Sp) (M : Mm) : callD d m_Mo_ruled [vR 12 0 a0, vI x1] S M = Run (callD (d - 1)) tb_Mo_ruled 0 [vR 12 0 a0, vI x1] [] S M := by
  obtain ⟨e, rfl⟩ : ∃ e, d = e + 1 := ⟨d - 1, by omega⟩
  exact rfl
theorem c_Mo_ruledBy {d : Nat} (hd : 1 ≤ d) (a0 : Nat) (x1 : Int) (x2 : Int) (S : Sp) (M : Mm) : callD d m_Mo_ruledBy [vR 12 0 a0, vI x1, vI x2] S M = Run (callD (d - 1)) tb_Mo_ruledBy 0 [vR 12 0 a0, vI x1, vI x2] [] S M := by
  obtain ⟨e, rfl⟩ : ∃ e, d = e + 1 := ⟨d - 1, by omega⟩
  exact rfl
theorem c_Mo_share {d : Nat} (hd : 1 ≤ d) (a0 : Nat) (x1 : Int) (x2 : Int) (S : Sp) (M : Mm) : callD d m_Mo_share [vR 12 0 a0, vI x1, vI x2] S M = Run (callD (d - 1)) tb_Mo_share 0 [vR 12 0 a0, vI x1, vI x2, vU, vU] [] S M := by
  obtain ⟨e, rfl⟩ : ∃ e, d = e + 1 := ⟨d - 1, by omega⟩
  exact rfl
theorem c_Mo_tellsBy {d : Nat} (hd : 1 ≤ d) (a0 : Nat) (x1 : Int) (x3 : Int) (S : Sp) (M : Mm) : callD d m_Mo_tellsBy [vR 12 0 a0, vL x1, vL x3] S M = Run (callD (d - 1)) tb_Mo_tellsBy 0 [vR 12 0 a0, vL x1, vU, vL x3, vU, vU, vU, vU, vU, vU, vU] [] S M := by
  obtain ⟨e, rfl⟩ : ∃ e, d = e + 1 := ⟨d - 1, by omega⟩
  exact rfl
theorem c_Mo_lawful {d : Nat} (hd : 1 ≤ d) (a0 : Nat) (x1 : Int) (x2 : Int) (S : Sp) (M : Mm) : callD d m_Mo_lawful [vR 12 0 a0, vI x1, vI x2] S M = Run (callD (d - 1)) tb_Mo_lawful 0 [vR 12 0 a0, vI x1, vI x2] [] S M := by
  obtain ⟨e, rfl⟩ : ∃ e, d = e + 1 := ⟨d - 1, by omega⟩
  exact rfl
theorem c_Mo_deedsBy {d : Nat} (hd : 1 ≤ d) (a0 : Nat) (x1 : Int) (S : Sp) (M : Mm) : callD d m_Mo_deedsBy [vR 12 0 a0, vI x1] S M = Run (callD (d - 1)) tb_Mo_deedsBy 0 [vR 12 0 a0, vI x1, vU, vU, vU] [] S M := by
  obtain ⟨e, rfl⟩ : ∃ e, d = e + 1 := ⟨d - 1, by omega⟩
  exact rfl
theorem c_Mo_isIn {d : Nat} (hd : 1 ≤ d) (a0 : Nat) (x1 : Int) (x2 : Int) (S : Sp) (M : Mm) : callD d m_Mo_isIn [vR 12 0 a0, vI x1, vI x2] S M = Run (callD (d - 1)) tb_Mo_isIn 0 [vR 12 0 a0, vI x1, vI x2] [] S M := by
  obtain ⟨e, rfl⟩ : ∃ e, d = e + 1 := ⟨d - 1, by omega⟩
  exact rfl
theorem c_Mo_deeds {d : Nat} (hd : 1 ≤ d) (a0 : Nat) (x1 : Int) (S : Sp) (M : Mm) : callD d m_Mo_deeds [vR 12 0 a0, vI x1] S M = Run (callD (d - 1)) tb_Mo_deeds 0 [vR 12 0 a0, vI x1] [] S M := by
  obtain ⟨e, rfl⟩ : ∃ e, d = e + 1 := ⟨d - 1, by omega⟩
  exact rfl
theorem c_Mo_board {d : Nat} (hd : 1 ≤ d) (a0 : Nat) (x1 : Int) (x2 : Int) (S : Sp) (M : Mm) : callD d m_Mo_board [vR 12 0 a0, vI x1, vI x2] S M = Run (callD (d - 1)) tb_Mo_board 0 [vR 12 0 a0, vI x1, vI x2] [] S M := by
  obtain ⟨e, rfl⟩ : ∃ e, d = e + 1 := ⟨d - 1, by omega⟩
  exact rfl
theorem c_Mo_canBoard {d : Nat} (hd : 1 ≤ d) (a0 : Nat) (x1 : Int) (x2 : Int) (S : Sp) (M : Mm) : callD d m_Mo_canBoard [vR 12 0 a0, vI x1, vI x2] S M = Run (callD (d - 1)) tb_Mo_canBoard 0 [vR 12 0 a0, vI x1, vI x2, vU, vU] [] S M := by
  obtain ⟨e, rfl⟩ : ∃ e, d = e + 1 := ⟨d - 1, by omega⟩
  exact rfl
theorem c_Mo_boarders {d : Nat} (hd : 1 ≤ d) (a0 : Nat) (x1 : Int) (S : Sp) (M : Mm) : callD d m_Mo_boarders [vR 12 0 a0, vI x1] S M = Run (callD (d - 1)) tb_Mo_boarders 0 [vR 12 0 a0, vI x1, vU, vU] [] S M := by
  obtain ⟨e, rfl⟩ : ∃ e, d = e + 1 := ⟨d - 1, by omega⟩
  exact rfl
theorem c_Mo_greatest {d : Nat} (hd : 1 ≤ d) (a0 : Nat) (x1 : Int) (S : Sp) (M : Mm) : callD d m_Mo_greatest [vR 12 0 a0, vI x1] S M = Run (callD (d - 1)) tb_Mo_greatest 0 [vR 12 0 a0, vI x1, vU, vU] [] S M := by
  obtain ⟨e, rfl⟩ : ∃ e, d = e + 1 := ⟨d - 1, by omega⟩
  exact rfl
theorem c_Mo_tonsBy {d : Nat} (hd : 1 ≤ d) (a0 : Nat) (x1 : Int) (x2 : Int) (S : Sp) (M : Mm) : callD d m_Mo_tonsBy [vR 12 0 a0, vI x1, vI x2] S M = Run (callD (d - 1)) tb_Mo_tonsBy 0 [vR 12 0 a0, vI x1, vI x2] [] S M := by
  obtain ⟨e, rfl⟩ : ∃ e, d = e + 1 := ⟨d - 1, by omega⟩
  exact rfl
theorem c_Mo_buy {d : Nat} (hd : 1 ≤ d) (a0 : Nat) (x1 : Int) (x2 : Int) (x3 : Int) (S : Sp) (M : Mm) : callD d m_Mo_buy [vR 12 0 a0, vI x1, vI x2, vI x3] S M = Run (callD (d - 1)) tb_Mo_buy 0 [vR 12 0 a0, vI x1, vI x2, vI x3] [] S M := by
  obtain ⟨e, rfl⟩ : ∃ e, d = e + 1 := ⟨d - 1, by omega⟩
  exact rfl
theorem c_Mo_isDeal {d : Nat} (hd : 1 ≤ d) (a0 : Nat) (x1 : Int) (x2 : Int) (x3 : Int) (S : Sp) (M : Mm) : callD d m_Mo_isDeal [vR 12 0 a0, vI x1, vI x2, vI x3] S M = Run (callD (d - 1)) tb_Mo_isDeal 0 [vR 12 0 a0, vI x1, vI x2, vI x3] [] S M := by
  obtain ⟨e, rfl⟩ : ∃ e, d = e + 1 := ⟨d - 1, by omega⟩
  exact rfl
theorem c_Mo_isTons {d : Nat} (hd : 1 ≤ d) (x0 : Int) (S : Sp) (M : Mm) : callD d m_Mo_isTons [vI x0] S M = Run (callD (d - 1)) tb_Mo_isTons 0 [vI x0] [] S M := by
  obtain ⟨e, rfl⟩ : ∃ e, d = e + 1 := ⟨d - 1, by omega⟩
  exact rfl
theorem c_Mo_isFrom {d : Nat} (hd : 1 ≤ d) (x0 : Int) (x2 : Int) (x4 : Int) (S : Sp) (M : Mm) : callD d m_Mo_isFrom [vL x0, vL x2, vL x4] S M = Run (callD (d - 1)) tb_Mo_isFrom 0 [vL x0, vU, vL x2, vU, vL x4, vU] [] S M := by
  obtain ⟨e, rfl⟩ : ∃ e, d = e + 1 := ⟨d - 1, by omega⟩
  exact rfl
theorem c_Mo_buys {d : Nat} (hd : 1 ≤ d) (a0 : Nat) (x1 : Int) (x2 : Int) (x3 : Int) (S : Sp) (M : Mm) : callD d m_Mo_buys [vR 12 0 a0, vI x1, vI x2, vI x3] S M = Run (callD (d - 1)) tb_Mo_buys 0 [vR 12 0 a0, vI x1, vI x2, vI x3, vU] [] S M := by
  obtain ⟨e, rfl⟩ : ∃ e, d = e + 1 := ⟨d - 1, by omega⟩
  exact rfl
theorem c_Mo_roomOf {d : Nat} (hd : 1 ≤ d) (a0 : Nat) (x1 : Int) (S : Sp) (M : Mm) : callD d m_Mo_roomOf [vR 12 0 a0, vI x1] S M = Run (callD (d - 1)) tb_Mo_roomOf 0 [vR 12 0 a0, vI x1] [] S M := by
  obtain ⟨e, rfl⟩ : ∃ e, d = e + 1 := ⟨d - 1, by omega⟩
  exact rfl
theorem c_Mo_loadRow {d : Nat} (hd : 1 ≤ d) (a0 : Nat) (x1 : Int) (x2 : Int) (S : Sp) (M : Mm) : callD d m_Mo_loadRow [vR 12 0 a0, vI x1, vI x2] S M = Run (callD (d - 1)) tb_Mo_loadRow 0 [vR 12 0 a0, vI x1, vI x2] [] S M := by
  obtain ⟨e, rfl⟩ : ∃ e, d = e + 1 := ⟨d - 1, by omega⟩
  exact rfl
theorem c_Mo_sell {d : Nat} (hd : 1 ≤ d) (a0 : Nat) (x1 : Int) (x2 : Int) (x3 : Int) (S : Sp) (M : Mm) : callD d m_Mo_sell [vR 12 0 a0, vI x1, vI x2, vI x3] S M = Run (callD (d - 1)) tb_Mo_sell 0 [vR 12 0 a0, vI x1, vI x2, vI x3] [] S M := by
  obtain ⟨e, rfl⟩ : ∃ e, d = e + 1 := ⟨d - 1, by omega⟩
  exact rfl
theorem c_Mo_sells {d : Nat} (hd : 1 ≤ d) (a0 : Nat) (x1 : Int) (x2 : Int) (x3 : Int) (S : Sp) (M : Mm) : callD d m_Mo_sells [vR 12 0 a0, vI x1, vI x2, vI x3] S M = Run (callD (d - 1)) tb_Mo_sells 0 [vR 12 0 a0, vI x1, vI x2, vI x3, vU] [] S M := by
  obtain ⟨e, rfl⟩ : ∃ e, d = e + 1 := ⟨d - 1, by omega⟩
  exact rfl
theorem c_Mo_dump {d : Nat} (hd : 1 ≤ d) (a0 : Nat) (x1 : Int) (x2 : Int) (x3 : Int) (S : Sp) (M : Mm) : callD d m_Mo_dump [vR 12 0 a0, vI x1, vI x2, vI x3] S M = Run (callD (d - 1)) tb_Mo_dump 0 [vR 12 0 a0, vI x1, vI x2, vI x3] [] S M := by
  obtain ⟨e, rfl⟩ : ∃ e, d = e + 1 := ⟨d - 1, by omega⟩
  exact rfl
theorem c_Mo_dumps {d : Nat} (hd : 1 ≤ d) (a0 : Nat) (x1 : Int) (x2 : Int) (x3 : Int) (S : Sp) (M : Mm) : callD d m_Mo_dumps [vR 12 0 a0, vI x1, vI x2, vI x3] S M = Run (callD (d - 1)) tb_Mo_dumps 0 [vR 12 0 a0, vI x1, vI x2, vI x3] [] S M := by
  obtain ⟨e, rfl⟩ : ∃ e, d = e + 1 := ⟨d - 1, by omega⟩
  exact rfl
theorem c_Mo_sail {d : Nat} (hd : 1 ≤ d) (a0 : Nat) (x1 : Int) (x2 : Int) (S : Sp) (M : Mm) : callD d m_Mo_sail [vR 12 0 a0, vI x1, vI x2] S M = Run (callD (d - 1)) tb_Mo_sail 0 [vR 12 0 a0, vI x1, vI x2] [] S M := by
  obtain ⟨e, rfl⟩ : ∃ e, d = e + 1 := ⟨d - 1, by omega⟩
  exact rfl
theorem c_Mo_sails {d : Nat} (hd : 1 ≤ d) (a0 : Nat) (x1 : Int) (x2 : Int) (S : Sp) (M : Mm) : callD d m_Mo_sails [vR 12 0 a0, vI x1, vI x2] S M = Run (callD (d - 1)) tb_Mo_sails 0 [vR 12 0 a0, vI x1, vI x2, vU] [] S M := by
  obtain ⟨e, rfl⟩ : ∃ e, d = e + 1 := ⟨d - 1, by omega⟩
  exact rfl
theorem c_Mo_day {d : Nat} (hd : 1 ≤ d) (a0 : Nat) (x1 : Int) (S : Sp) (M : Mm) : callD d m_Mo_day [vR 12 0 a0, vI x1] S M = Run (callD (d - 1)) tb_Mo_day 0 [vR 12 0 a0, vI x1, vU, vU] [] S M := by
  obtain ⟨e, rfl⟩ : ∃ e, d = e + 1 := ⟨d - 1, by omega⟩
  exact rfl
theorem c_Mo_dayGoes {d : Nat} (hd : 1 ≤ d) (a0 : Nat) (S : Sp) (M : Mm) : callD d m_Mo_dayGoes [vR 12 0 a0] S M = Run (callD (d - 1)) tb_Mo_dayGoes 0 [vR 12 0 a0, vU, vU] [] S M := by
  obtain ⟨e, rfl⟩ : ∃ e, d = e + 1 := ⟨d - 1, by omega⟩
  exact rfl
theorem c_Mo_passes {d : Nat} (hd : 1 ≤ d) (a0 : Nat) (x1 : Int) (S : Sp) (M : Mm) : callD d m_Mo_passes [vR 12 0 a0, vI x1] S M = Run (callD (d - 1)) tb_Mo_passes 0 [vR 12 0 a0, vI x1, vU, vU, vU, vU] [] S M := by
  obtain ⟨e, rfl⟩ : ∃ e, d = e + 1 := ⟨d - 1, by omega⟩
  exact rfl
theorem c_Mo_loadsIn {d : Nat} (hd : 1 ≤ d) (a0 : Nat) (x1 : Int) (x2 : Int) (S : Sp) (M : Mm) : callD d m_Mo_loadsIn [vR 12 0 a0, vI x1, vI x2] S M = Run (callD (d - 1)) tb_Mo_loadsIn 0 [vR 12 0 a0, vI x1, vI x2] [] S M := by
  obtain ⟨e, rfl⟩ : ∃ e, d = e + 1 := ⟨d - 1, by omega⟩
  exact rfl
theorem c_Mo_leaks {d : Nat} (hd : 1 ≤ d) (a0 : Nat) (x1 : Int) (S : Sp) (M : Mm) : callD d m_Mo_leaks [vR 12 0 a0, vI x1] S M = Run (callD (d - 1)) tb_Mo_leaks 0 [vR 12 0 a0, vI x1, vU] [] S M := by
  obtain ⟨e, rfl⟩ : ∃ e, d = e + 1 := ⟨d - 1, by omega⟩
  exact rfl
theorem c_Mo_comesIn {d : Nat} (hd : 1 ≤ d) (a0 : Nat) (x1 : Int) (S : Sp) (M : Mm) : callD d m_Mo_comesIn [vR 12 0 a0, vI x1] S M = Run (callD (d - 1)) tb_Mo_comesIn 0 [vR 12 0 a0, vI x1, vU, vU, vU, vU] [] S M := by
  obtain ⟨e, rfl⟩ : ∃ e, d = e + 1 := ⟨d - 1, by omega⟩
  exact rfl
theorem c_Mo_pass {d : Nat} (hd : 1 ≤ d) (a0 : Nat) (x1 : Int) (x2 : Int) (x3 : Int) (x4 : Int) (S : Sp) (M : Mm) : callD d m_Mo_pass [vR 12 0 a0, vI x1, vI x2, vI x3, vI x4] S M = Run (callD (d - 1)) tb_Mo_pass 0 [vR 12 0 a0, vI x1, vI x2, vI x3, vI x4] [] S M := by
  obtain ⟨e, rfl⟩ : ∃ e, d = e + 1 := ⟨d - 1, by omega⟩
  exact rfl
theorem c_Mo_rule {d : Nat} (hd : 1 ≤ d) (a0 : Nat) (x1 : Int) (S : Sp) (M : Mm) : callD d m_Mo_rule [vR 12 0 a0, vI x1] S M = Run (callD (d - 1)) tb_Mo_rule 0 [vR 12 0 a0, vI x1] [] S M := by
  obtain ⟨e, rfl⟩ : ∃ e, d = e + 1 := ⟨d - 1, by omega⟩
  exact rfl
theorem c_Mo_war {d : Nat} (hd : 1 ≤ d) (a0 : Nat) (x1 : Int) (x2 : Int) (x3 : Int) (S : Sp) (M : Mm) : callD d m_Mo_war [vR 12 0 a0, vI x1, vI x2, vI x3] S M = Run (callD (d - 1)) tb_Mo_war 0 [vR 12 0 a0, vI x1, vI x2, vI x3] [] S M := by
  obtain ⟨e, rfl⟩ : ∃ e, d = e + 1 := ⟨d - 1, by omega⟩
  exact rfl
theorem c_Mo_trade {d : Nat} (hd : 1 ≤ d) (a0 : Nat) (x1 : Int) (x2 : Int) (x3 : Int) (S : Sp) (M : Mm) : callD d m_Mo_trade [vR 12 0 a0, vI x1, vI x2, vI x3] S M = Run (callD (d - 1)) tb_Mo_trade 0 [vR 12 0 a0, vI x1, vI x2, vI x3] [] S M := by
  obtain ⟨e, rfl⟩ : ∃ e, d = e + 1 := ⟨d - 1, by omega⟩
  exact rfl
theorem c_Mo_pay {d : Nat} (hd : 1 ≤ d) (a0 : Nat) (x1 : Int) (x2 : Int) (S : Sp) (M : Mm) : callD d m_Mo_pay [vR 12 0 a0, vI x1, vI x2] S M = Run (callD (d - 1)) tb_Mo_pay 0 [vR 12 0 a0, vI x1, vI x2] [] S M := by
  obtain ⟨e, rfl⟩ : ∃ e, d = e + 1 := ⟨d - 1, by omega⟩
  exact rfl
theorem c_Mo_flagIn {d : Nat} (hd : 1 ≤ d) (a0 : Nat) (x1 : Int) (x2 : Int) (S : Sp) (M : Mm) : callD d m_Mo_flagIn [vR 12 0 a0, vI x1, vI x2] S M = Run (callD (d - 1)) tb_Mo_flagIn 0 [vR 12 0 a0, vI x1, vI x2] [] S M := by
  obtain ⟨e, rfl⟩ : ∃ e, d = e + 1 := ⟨d - 1, by omega⟩
  exact rfl
theorem c_Mo_isSpan {d : Nat} (hd : 1 ≤ d) (a0 : Nat) (x1 : Int) (x2 : Int) (S : Sp) (M : Mm) : callD d m_Mo_isSpan [vR 12 0 a0, vI x1, vI x2] S M = Run (callD (d - 1)) tb_Mo_isSpan 0 [vR 12 0 a0, vI x1, vI x2] [] S M := by
  obtain ⟨e, rfl⟩ : ∃ e, d = e + 1 := ⟨d - 1, by omega⟩
  exact rfl
theorem c_Mo_flagBy {d : Nat} (hd : 1 ≤ d) (a0 : Nat) (x1 : Int) (x2 : Int) (S : Sp) (M : Mm) : callD d m_Mo_flagBy [vR 12 0 a0, vI x1, vI x2] S M = Run (callD (d - 1)) tb_Mo_flagBy 0 [vR 12 0 a0, vI x1, vI x2] [] S M := by
  obtain ⟨e, rfl⟩ : ∃ e, d = e + 1 := ⟨d - 1, by omega⟩
  exact rfl
theorem c_Mo_tonsIn {d : Nat} (hd : 1 ≤ d) (a0 : Nat) (x1 : Int) (x2 : Int) (S : Sp) (M : Mm) : callD d m_Mo_tonsIn [vR 12 0 a0, vI x1, vI x2] S M = Run (callD (d - 1)) tb_Mo_tonsIn 0 [vR 12 0 a0, vI x1, vI x2] [] S M := by
  obtain ⟨e, rfl⟩ : ∃ e, d = e + 1 := ⟨d - 1, by omega⟩
  exact rfl
theorem c_Mo_turns {d : Nat} (hd : 1 ≤ d) (a0 : Nat) (x1 : Int) (S : Sp) (M : Mm) : callD d m_Mo_turns [vR 12 0 a0, vI x1] S M = Run (callD (d - 1)) tb_Mo_turns 0 [vR 12 0 a0, vI x1, vU, vU] [] S M := by
  obtain ⟨e, rfl⟩ : ∃ e, d = e + 1 := ⟨d - 1, by omega⟩
  exact rfl
theorem c_Mo_flags {d : Nat} (hd : 1 ≤ d) (a0 : Nat) (x1 : Int) (x2 : Int) (S : Sp) (M : Mm) : callD d m_Mo_flags [vR 12 0 a0, vI x1, vI x2] S M = Run (callD (d - 1)) tb_Mo_flags 0 [vR 12 0 a0, vI x1, vI x2, vU, vU, vU, vU] [] S M := by
  obtain ⟨e, rfl⟩ : ∃ e, d = e + 1 := ⟨d - 1, by omega⟩
  exact rfl
theorem c_Mo_wages {d : Nat} (hd : 1 ≤ d) (a0 : Nat) (x1 : Int) (x2 : Int) (S : Sp) (M : Mm) : callD d m_Mo_wages [vR 12 0 a0, vI x1, vI x2] S M = Run (callD (d - 1)) tb_Mo_wages 0 [vR 12 0 a0, vI x1, vI x2, vU, vU] [] S M := by
  obtain ⟨e, rfl⟩ : ∃ e, d = e + 1 := ⟨d - 1, by omega⟩
  exact rfl
theorem c_Mo_stowaway {d : Nat} (hd : 1 ≤ d) (a0 : Nat) (x1 : Int) (S : Sp) (M : Mm) : callD d m_Mo_stowaway [vR 12 0 a0, vI x1] S M = Run (callD (d - 1)) tb_Mo_stowaway 0 [vR 12 0 a0, vI x1] [] S M := by
  obtain ⟨e, rfl⟩ : ∃ e, d = e + 1 := ⟨d - 1, by omega⟩
  exact rfl
theorem c_Mo_stows {d : Nat} (hd : 1 ≤ d) (a0 : Nat) (x1 : Int) (S : Sp) (M : Mm) : callD d m_Mo_stows [vR 12 0 a0, vI x1] S M = Run (callD (d - 1)) tb_Mo_stows 0 [vR 12 0 a0, vI x1, vU, vU] [] S M := by
  obtain ⟨e, rfl⟩ : ∃ e, d = e + 1 := ⟨d - 1, by omega⟩
  exact rfl
theorem c_Mo_stowawayGood {d : Nat} (hd : 1 ≤ d) (a0 : Nat) (x1 : Int) (S : Sp) (M : Mm) : callD d m_Mo_stowawayGood [vR 12 0 a0, vI x1] S M = Run (callD (d - 1)) tb_Mo_stowawayGood 0 [vR 12 0 a0, vI x1] [] S M := by
  obtain ⟨e, rfl⟩ : ∃ e, d = e + 1 := ⟨d - 1, by omega⟩
  exact rfl
theorem c_Mo_guard {d : Nat} (hd : 1 ≤ d) (a0 : Nat) (x1 : Int) (x2 : Int) (S : Sp) (M : Mm) : callD d m_Mo_guard [vR 12 0 a0, vI x1, vI x2] S M = Run (callD (d - 1)) tb_Mo_guard 0 [vR 12 0 a0, vI x1, vI x2] [] S M := by
  obtain ⟨e, rfl⟩ : ∃ e, d = e + 1 := ⟨d - 1, by omega⟩
  exact rfl
theorem c_Mo_isGuarded {d : Nat} (hd : 1 ≤ d) (a0 : Nat) (x1 : Int) (x2 : Int) (S : Sp) (M : Mm) : callD d m_Mo_isGuarded [vR 12 0 a0, vI x1, vI x2] S M = Run (callD (d - 1)) tb_Mo_isGuarded 0 [vR 12 0 a0, vI x1, vI x2, vU, vU] [] S M := by
  obtain ⟨e, rfl⟩ : ∃ e, d = e + 1 := ⟨d - 1, by omega⟩
  exact rfl
theorem c_Mo_passFor {d : Nat} (hd : 1 ≤ d) (a0 : Nat) (x1 : Int) (x2 : Int) (S : Sp) (M : Mm) : callD d m_Mo_passFor [vR 12 0 a0, vI x1, vI x2] S M = Run (callD (d - 1)) tb_Mo_passFor 0 [vR 12 0 a0, vI x1, vI x2] [] S M := by
  obtain ⟨e, rfl⟩ : ∃ e, d = e + 1 := ⟨d - 1, by omega⟩
  exact rfl
theorem c_Mo_passes0 {d : Nat} (hd : 1 ≤ d) (a0 : Nat) (x1 : Int) (x2 : Int) (S : Sp) (M : Mm) : callD d m_Mo_passes0 [vR 12 0 a0, vI x1, vI x2] S M = Run (callD (d - 1)) tb_Mo_passes0 0 [vR 12 0 a0, vI x1, vI x2, vU, vU] [] S M := by
  obtain ⟨e, rfl⟩ : ∃ e, d = e + 1 := ⟨d - 1, by omega⟩
  exact rfl
theorem c_Mo_passGood {d : Nat} (hd : 1 ≤ d) (a0 : Nat) (x1 : Int) (x2 : Int) (S : Sp) (M : Mm) : callD d m_Mo_passGood [vR 12 0 a0, vI x1, vI x2] S M = Run (callD (d - 1)) tb_Mo_passGood 0 [vR 12 0 a0, vI x1, vI x2] [] S M := by
  obtain ⟨e, rfl⟩ : ∃ e, d = e + 1 := ⟨d - 1, by omega⟩
  exact rfl
theorem c_Mo_peace {d : Nat} (hd : 1 ≤ d) (a0 : Nat) (x1 : Int) (S : Sp) (M : Mm) : callD d m_Mo_peace [vR 12 0 a0, vI x1] S M = Run (callD (d - 1)) tb_Mo_peace 0 [vR 12 0 a0, vI x1] [] S M := by
  obtain ⟨e, rfl⟩ : ∃ e, d = e + 1 := ⟨d - 1, by omega⟩
  exact rfl
theorem c_Mo_peaceBy {d : Nat} (hd : 1 ≤ d) (a0 : Nat) (x1 : Int) (S : Sp) (M : Mm) : callD d m_Mo_peaceBy [vR 12 0 a0, vI x1] S M = Run (callD (d - 1)) tb_Mo_peaceBy 0 [vR 12 0 a0, vI x1, vU, vU, vU, vU, vU] [] S M := by
  obtain ⟨e, rfl⟩ : ∃ e, d = e + 1 := ⟨d - 1, by omega⟩
  exact rfl
theorem c_Mo_peaceCost {d : Nat} (hd : 1 ≤ d) (a0 : Nat) (x1 : Int) (S : Sp) (M : Mm) : callD d m_Mo_peaceCost [vR 12 0 a0, vI x1] S M = Run (callD (d - 1)) tb_Mo_peaceCost 0 [vR 12 0 a0, vI x1] [] S M := by
  obtain ⟨e, rfl⟩ : ∃ e, d = e + 1 := ⟨d - 1, by omega⟩
  exact rfl
theorem c_Mo_voyage {d : Nat} (hd : 1 ≤ d) (a0 : Nat) (x1 : Int) (x2 : Int) (S : Sp) (M : Mm) : callD d m_Mo_voyage [vR 12 0 a0, vI x1, vI x2] S M = Run (callD (d - 1)) tb_Mo_voyage 0 [vR 12 0 a0, vI x1, vI x2, vU] [] S M := by
  obtain ⟨e, rfl⟩ : ∃ e, d = e + 1 := ⟨d - 1, by omega⟩
  exact rfl
theorem c_Mo_wrongVoyage {d : Nat} (hd : 1 ≤ d) (a0 : Nat) (x1 : Int) (x2 : Int) (S : Sp) (M : Mm) : callD d m_Mo_wrongVoyage [vR 12 0 a0, vI x1, vI x2] S M = Run (callD (d - 1)) tb_Mo_wrongVoyage 0 [vR 12 0 a0, vI x1, vI x2] [] S M := by
  obtain ⟨e, rfl⟩ : ∃ e, d = e + 1 := ⟨d - 1, by omega⟩
  exact rfl
theorem c_Mo_laysVoyage {d : Nat} (hd : 1 ≤ d) (a0 : Nat) (x1 : Int) (x2 : Int) (S : Sp) (M : Mm) : callD d m_Mo_laysVoyage [vR 12 0 a0, vI x1, vI x2] S M = Run (callD (d - 1)) tb_Mo_laysVoyage 0 [vR 12 0 a0, vI x1, vI x2, vU] [] S M := by
  obtain ⟨e, rfl⟩ : ∃ e, d = e + 1 := ⟨d - 1, by omega⟩
  exact rfl
theorem c_Mo_keepsShip {d : Nat} (hd : 1 ≤ d) (a0 : Nat) (x1 : Int) (x2 : Int) (S : Sp) (M : Mm) : callD d m_Mo_keepsShip [vR 12 0 a0, vI x1, vI x2] S M = Run (callD (d - 1)) tb_Mo_keepsShip 0 [vR 12 0 a0, vI x1, vI x2, vU] [] S M := by
  obtain ⟨e, rfl⟩ : ∃ e, d = e + 1 := ⟨d - 1, by omega⟩
  exact rfl
theorem c_Mo_givesBack {d : Nat} (hd : 1 ≤ d) (a0 : Nat) (x1 : Int) (x2 : Int) (S : Sp) (M : Mm) : callD d m_Mo_givesBack [vR 12 0 a0, vI x1, vI x2] S M = Run (callD (d - 1)) tb_Mo_givesBack 0 [vR 12 0 a0, vI x1, vI x2, vU] [] S M := by
  obtain ⟨e, rfl⟩ : ∃ e, d = e + 1 := ⟨d - 1, by omega⟩
  exact rfl
theorem c_Mo_goesLeg {d : Nat} (hd : 1 ≤ d) (a0 : Nat) (x1 : Int) (x2 : Int) (x3 : Int) (S : Sp) (M : Mm) : callD d m_Mo_goesLeg [vR 12 0 a0, vI x1, vI x2, vI x3] S M = Run (callD (d - 1)) tb_Mo_goesLeg 0 [vR 12 0 a0, vI x1, vI x2, vI x3, vU, vU] [] S M := by
  obtain ⟨e, rfl⟩ : ∃ e, d = e + 1 := ⟨d - 1, by omega⟩
  exact rfl
theorem c_Mo_sellsAll {d : Nat} (hd : 1 ≤ d) (a0 : Nat) (x1 : Int) (S : Sp) (M : Mm) : callD d m_Mo_sellsAll [vR 12 0 a0, vI x1] S M = Run (callD (d - 1)) tb_Mo_sellsAll 0 [vR 12 0 a0, vI x1, vU] [] S M := by
  obtain ⟨e, rfl⟩ : ∃ e, d = e + 1 := ⟨d - 1, by omega⟩
  exact rfl
theorem c_Mo_voyageAt {d : Nat} (hd : 1 ≤ d) (a0 : Nat) (x1 : Int) (x2 : Int) (x3 : Int) (S : Sp) (M : Mm) : callD d m_Mo_voyageAt [vR 12 0 a0, vI x1, vI x2, vI x3] S M = Run (callD (d - 1)) tb_Mo_voyageAt 0 [vR 12 0 a0, vI x1, vI x2, vI x3, vU] [] S M := by
  obtain ⟨e, rfl⟩ : ∃ e, d = e + 1 := ⟨d - 1, by omega⟩
  exact rfl
theorem c_Mo_soonest {d : Nat} (hd : 1 ≤ d) (a0 : Nat) (x1 : Int) (x2 : Int) (S : Sp) (M : Mm) : callD d m_Mo_soonest [vR 12 0 a0, vI x1, vI x2] S M = Run (callD (d - 1)) tb_Mo_soonest 0 [vR 12 0 a0, vI x1, vI x2] [] S M := by
  obtain ⟨e, rfl⟩ : ∃ e, d = e + 1 := ⟨d - 1, by omega⟩
  exact rfl
theorem c_Mo_laysDays {d : Nat} (hd : 1 ≤ d) (a0 : Nat) (x1 : Int) (S : Sp) (M : Mm) : callD d m_Mo_laysDays [vR 12 0 a0, vI x1] S M = Run (callD (d - 1)) tb_Mo_laysDays 0 [vR 12 0 a0, vI x1, vU, vU, vU] [] S M := by
  obtain ⟨e, rfl⟩ : ∃ e, d = e + 1 := ⟨d - 1, by omega⟩
  exact rfl
theorem c_Mo_next {d : Nat} (hd : 1 ≤ d) (a0 : Nat) (x1 : Int) (x2 : Int) (S : Sp) (M : Mm) : callD d m_Mo_next [vR 12 0 a0, vI x1, vI x2] S M = Run (callD (d - 1)) tb_Mo_next 0 [vR 12 0 a0, vI x1, vI x2, vU] [] S M := by
  obtain ⟨e, rfl⟩ : ∃ e, d = e + 1 := ⟨d - 1, by omega⟩
  exact rfl
theorem c_Mo_reach {d : Nat} (hd : 1 ≤ d) (a0 : Nat) (x1 : Int) (S : Sp) (M : Mm) : callD d m_Mo_reach [vR 12 0 a0, vI x1] S M = Run (callD (d - 1)) tb_Mo_reach 0 [vR 12 0 a0, vI x1, vU, vU] [] S M := by
  obtain ⟨e, rfl⟩ : ∃ e, d = e + 1 := ⟨d - 1, by omega⟩
  exact rfl
theorem c_Mo_best {d : Nat} (hd : 1 ≤ d) (a0 : Nat) (x1 : Int) (x2 : Int) (S : Sp) (M : Mm) : callD d m_Mo_best [vR 12 0 a0, vI x1, vI x2] S M = Run (callD (d - 1)) tb_Mo_best 0 [vR 12 0 a0, vI x1, vI x2, vU, vU, vU] [] S M := by
  obtain ⟨e, rfl⟩ : ∃ e, d = e + 1 := ⟨d - 1, by omega⟩
  exact rfl
theorem c_Mo_log {d : Nat} (hd : 1 ≤ d) (a0 : Nat) (x1 : Int) (x2 : Int) (x3 : Int) (S : Sp) (M : Mm) : callD d m_Mo_log [vR 12 0 a0, vI x1, vI x2, vI x3] S M = Run (callD (d - 1)) tb_Mo_log 0 [vR 12 0 a0, vI x1, vI x2, vI x3, vU] [] S M := by
  obtain ⟨e, rfl⟩ : ∃ e, d = e + 1 := ⟨d - 1, by omega⟩
  exact rfl
theorem c_Mo_wrongLog {d : Nat} (hd : 1 ≤ d) (a0 : Nat) (x1 : Int) (x2 : Int) (x3 : Int) (S : Sp) (M : Mm) : callD d m_Mo_wrongLog [vR 12 0 a0, vI x1, vI x2, vI x3] S M = Run (callD (d - 1)) tb_Mo_wrongLog 0 [vR 12 0 a0, vI x1, vI x2, vI x3, vU] [] S M := by
  obtain ⟨e, rfl⟩ : ∃ e, d = e + 1 := ⟨d - 1, by omega⟩
  exact rfl
theorem c_Mo_laysLog {d : Nat} (hd : 1 ≤ d) (a0 : Nat) (x1 : Int) (x2 : Int) (x3 : Int) (S : Sp) (M : Mm) : callD d m_Mo_laysLog [vR 12 0 a0, vI x1, vI x2, vI x3] S M = Run (callD (d - 1)) tb_Mo_laysLog 0 [vR 12 0 a0, vI x1, vI x2, vI x3, vU, vU, vU, vU] [] S M := by
  obtain ⟨e, rfl⟩ : ∃ e, d = e + 1 := ⟨d - 1, by omega⟩
  exact rfl
theorem c_Mo_isLogged {d : Nat} (hd : 1 ≤ d) (a0 : Nat) (x1 : Int) (x2 : Int) (x3 : Int) (x4 : Int) (x5 : Int) (x6 : Int) (S : Sp) (M : Mm) : callD d m_Mo_isLogged [vR 12 0 a0, vI x1, vI x2, vI x3, vI x4, vI x5, vI x6] S M = Run (callD (d - 1)) tb_Mo_isLogged 0 [vR 12 0 a0, vI x1, vI x2, vI x3, vI x4, vI x5, vI x6, vU, vU] [] S M := by
  obtain ⟨e, rfl⟩ : ∃ e, d = e + 1 := ⟨d - 1, by omega⟩
  exact rfl
theorem c_Mo_sure {d : Nat} (hd : 1 ≤ d) (a0 : Nat) (x1 : Int) (x2 : Int) (x3 : Int) (S : Sp) (M : Mm) : callD d m_Mo_sure [vR 12 0 a0, vI x1, vI x2, vI x3] S M = Run (callD (d - 1)) tb_Mo_sure 0 [vR 12 0 a0, vI x1, vI x2, vI x3, vU] [] S M := by
  obtain ⟨e, rfl⟩ : ∃ e, d = e + 1 := ⟨d - 1, by omega⟩
  exact rfl
theorem c_Mo_copyLog {d : Nat} (hd : 1 ≤ d) (a0 : Nat) (x1 : Int) (x2 : Int) (x3 : Int) (S : Sp) (M : Mm) : callD d m_Mo_copyLog [vR 12 0 a0, vI x1, vI x2, vI x3] S M = Run (callD (d - 1)) tb_Mo_copyLog 0 [vR 12 0 a0, vI x1, vI x2, vI x3, vU] [] S M := by
  obtain ⟨e, rfl⟩ : ∃ e, d = e + 1 := ⟨d - 1, by omega⟩
  exact rfl
theorem c_Mo_live {d : Nat} (hd : 1 ≤ d) (a0 : Nat) (x1 : Int) (S : Sp) (M : Mm) : callD d m_Mo_live [vR 12 0 a0, vI x1] S M = Run (callD (d - 1)) tb_Mo_live 0 [vR 12 0 a0, vI x1, vU] [] S M := by
  obtain ⟨e, rfl⟩ : ∃ e, d = e + 1 := ⟨d - 1, by omega⟩
  exact rfl
theorem c_Mo_lives {d : Nat} (hd : 1 ≤ d) (a0 : Nat) (x1 : Int) (S : Sp) (M : Mm) : callD d m_Mo_lives [vR 12 0 a0, vI x1] S M = Run (callD (d - 1)) tb_Mo_lives 0 [vR 12 0 a0, vI x1, vU, vU] [] S M := by
  obtain ⟨e, rfl⟩ : ∃ e, d = e + 1 := ⟨d - 1, by omega⟩
  exact rfl
theorem c_Mo_does {d : Nat} (hd : 1 ≤ d) (a0 : Nat) (x1 : Int) (S : Sp) (M : Mm) : callD d m_Mo_does [vR 12 0 a0, vI x1] S M = Run (callD (d - 1)) tb_Mo_does 0 [vR 12 0 a0, vI x1, vU, vU] [] S M := by
  obtain ⟨e, rfl⟩ : ∃ e, d = e + 1 := ⟨d - 1, by omega⟩
  exact rfl
theorem c_Mo_daysGo {d : Nat} (hd : 1 ≤ d) (a0 : Nat) (x1 : Int) (S : Sp) (M : Mm) : callD d m_Mo_daysGo [vR 12 0 a0, vI x1] S M = Run (callD (d - 1)) tb_Mo_daysGo 0 [vR 12 0 a0, vI x1, vU] [] S M := by
  obtain ⟨e, rfl⟩ : ∃ e, d = e + 1 := ⟨d - 1, by omega⟩
  exact rfl
theorem c_Mo_buysBy {d : Nat} (hd : 1 ≤ d) (a0 : Nat) (x1 : Int) (x2 : Int) (x3 : Int) (S : Sp) (M : Mm) : callD d m_Mo_buysBy [vR 12 0 a0, vI x1, vI x2, vI x3] S M = Run (callD (d - 1)) tb_Mo_buysBy 0 [vR 12 0 a0, vI x1, vI x2, vI x3] [] S M := by
  obtain ⟨e, rfl⟩ : ∃ e, d = e + 1 := ⟨d - 1, by omega⟩
  exact rfl
theorem c_Mo_draw {d : Nat} (hd : 1 ≤ d) (a0 : Nat) (x1 : Int) (S : Sp) (M : Mm) : callD d m_Mo_draw [vR 12 0 a0, vI x1] S M = Run (callD (d - 1)) tb_Mo_draw 0 [vR 12 0 a0, vI x1] [] S M := by
  obtain ⟨e, rfl⟩ : ∃ e, d = e + 1 := ⟨d - 1, by omega⟩
  exact rfl
theorem c_Mo_holds {d : Nat} (hd : 1 ≤ d) (a0 : Nat) (x1 : Int) (S : Sp) (M : Mm) : callD d m_Mo_holds [vR 12 0 a0, vI x1] S M = Run (callD (d - 1)) tb_Mo_holds 0 [vR 12 0 a0, vI x1, vU, vU, vU] [] S M := by
  obtain ⟨e, rfl⟩ : ∃ e, d = e + 1 := ⟨d - 1, by omega⟩
  exact rfl
theorem c_Mo_behindEnds {d : Nat} (hd : 1 ≤ d) (a0 : Nat) (x1 : Int) (S : Sp) (M : Mm) : callD d m_Mo_behindEnds [vR 12 0 a0, vI x1] S M = Run (callD (d - 1)) tb_Mo_behindEnds 0 [vR 12 0 a0, vI x1, vU, vU, vU] [] S M := by
  obtain ⟨e, rfl⟩ : ∃ e, d = e + 1 := ⟨d - 1, by omega⟩
  exact rfl
theorem c_Mo_lived {d : Nat} (hd : 1 ≤ d) (a0 : Nat) (x1 : Int) (S : Sp) (M : Mm) : callD d m_Mo_lived [vR 12 0 a0, vI x1] S M = Run (callD (d - 1)) tb_Mo_lived 0 [vR 12 0 a0, vI x1] [] S M := by
  obtain ⟨e, rfl⟩ : ∃ e, d = e + 1 := ⟨d - 1, by omega⟩
  exact rfl
theorem c_Mo_mean {d : Nat} (hd : 1 ≤ d) (a0 : Nat) (x1 : Int) (x2 : Int) (S : Sp) (M : Mm) : callD d m_Mo_mean [vR 12 0 a0, vI x1, vI x2] S M = Run (callD (d - 1)) tb_Mo_mean 0 [vR 12 0 a0, vI x1, vI x2, vU, vU, vU, vU] [] S M := by
  obtain ⟨e, rfl⟩ : ∃ e, d = e + 1 := ⟨d - 1, by omega⟩
  exact rfl
theorem c_Mo_mark {d : Nat} (hd : 1 ≤ d) (a0 : Nat) (S : Sp) (M : Mm) : callD d m_Mo_mark [vR 12 0 a0] S M = Run (callD (d - 1)) tb_Mo_mark 0 [vR 12 0 a0] [] S M := by
  obtain ⟨e, rfl⟩ : ∃ e, d = e + 1 := ⟨d - 1, by omega⟩
  exact rfl
theorem c_Mo_copies {d : Nat} (hd : 1 ≤ d) (a0 : Nat) (x1 : Int) (x2 : Int) (S : Sp) (M : Mm) : callD d m_Mo_copies [vR 12 0 a0, vI x1, vI x2] S M = Run (callD (d - 1)) tb_Mo_copies 0 [vR 12 0 a0, vI x1, vI x2, vU] [] S M := by
  obtain ⟨e, rfl⟩ : ∃ e, d = e + 1 := ⟨d - 1, by omega⟩
  exact rfl
theorem c_Mo_undo {d : Nat} (hd : 1 ≤ d) (a0 : Nat) (S : Sp) (M : Mm) : callD d m_Mo_undo [vR 12 0 a0] S M = Run (callD (d - 1)) tb_Mo_undo 0 [vR 12 0 a0] [] S M := by
  obtain ⟨e, rfl⟩ : ∃ e, d = e + 1 := ⟨d - 1, by omega⟩
  exact rfl

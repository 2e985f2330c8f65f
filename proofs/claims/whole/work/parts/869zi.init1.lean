/-! THE CONSTRUCTORS: parts that stand alone -/
theorem sr_cons (c : Ds) (S : Sp) (i k b : Nat) : setRef (c :: S) (i + 1) k b = c :: setRef S i k b := by
  unfold setRef
  rw [List.getElem?_cons_succ]
  cases S[i]? <;> rfl
theorem sr_app : ∀ (S T : Sp) (i k b : Nat), setRef (S ++ T) (S.length + i) k b = S ++ setRef T i k b
  | [], T, i, k, b => by
    rw [List.nil_append, List.length_nil, Nat.zero_add]
    rfl
  | c :: S, T, i, k, b => by
    have ih := sr_app S T i k b
    have e : (c :: S).length + i = (S.length + i) + 1 := by
      rw [List.length_cons]
      omega
    rw [e, List.cons_append, sr_cons, ih]
    rfl
theorem rf_app (S T : Sp) (i k : Nat) : refOf (S ++ T) (S.length + i) k = refOf T i k := by
  unfold refOf
  rw [List.getElem?_append_right (Nat.le_add_right _ _), Nat.add_sub_cancel_left]
theorem al (S l c : Sp) (k b : Nat) : setRef ((S ++ l) ++ c) S.length k b = S ++ setRef (l ++ c) 0 k b := by
  rw [List.append_assoc]
  exact sr_app S (l ++ c) 0 k b
theorem al3 (S l c : Sp) (i k b : Nat) : setRef ((S ++ l) ++ c) (S.length + i) k b = S ++ setRef (l ++ c) i k b := by
  rw [List.append_assoc]
  exact sr_app S (l ++ c) i k b
theorem ln (S l : Sp) : (S ++ l).length = S.length + l.length := List.length_append
theorem lnc (S l : Sp) (c : Nat) (h : l.length = c) : (S ++ l).length = S.length + c := by rw [ln, h]
def wtB (n : Nat) : Sp := [(10, 0, [none])]
def wtM (n : Nat) (M : Mm) : Mm := up M n 0 0
theorem i_WorldText {d : Nat} (hd : 1 ≤ d) (S : Sp) (M : Mm) : callD d m_WorldText_init [vR 10 0 S.length] (S ++ [(10, 0, List.replicate 1 none)]) M = some (none, S ++ wtB S.length, wtM S.length M) := by
  rw [c_WorldText_init hd, b_WorldText_init_0, b_WorldText_init_9]
  try simp only [ln, setRef_len]
  all_goals rfl
def vtB (n : Nat) : Sp := [(9, 0, [some (n + 1), none]),
  (20, 3, [])]
def vtM (n : Nat) (M : Mm) : Mm := up M n 1 0
theorem i_VoyageText {d : Nat} (hd : 1 ≤ d) (S : Sp) (M : Mm) : callD d m_VoyageText_init [vR 9 0 S.length] (S ++ [(9, 0, List.replicate 2 none)]) M = some (none, S ++ vtB S.length, vtM S.length M) := by
  rw [c_VoyageText_init hd, b_VoyageText_init_0, al, b_VoyageText_init_11, b_VoyageText_init_16]
  try simp only [ln, setRef_len]
  all_goals rfl
def chB (n : Nat) : Sp := [(0, 0, [some (n + 1), some (n + 2), some (n + 7), some (n + 8), some (n + 9), some (n + 10), some (n + 11), some (n + 12), some (n + 13), some (n + 14), some (n + 15), some (n + 22), none, some (n + 29), some (n + 30)]),
  (20, 4, []),
  (26, 4, [some (n + 3), some (n + 4), some (n + 5), some (n + 6)]),
  (21, 8, []),
  (21, 8, []),
  (21, 8, []),
  (21, 8, []),
  (20, 6, []),
  (20, 6, []),
  (20, 6, []),
  (20, 6, []),
  (20, 8, []),
  (20, 8, []),
  (20, 8, []),
  (20, 6, []),
  (27, 6, [some (n + 16), some (n + 17), some (n + 18), some (n + 19), some (n + 20), some (n + 21)]),
  (20, 8, []),
  (20, 8, []),
  (20, 8, []),
  (20, 8, []),
  (20, 8, []),
  (20, 8, []),
  (28, 6, [some (n + 23), some (n + 24), some (n + 25), some (n + 26), some (n + 27), some (n + 28)]),
  (20, 6, []),
  (20, 6, []),
  (20, 6, []),
  (20, 6, []),
  (20, 6, []),
  (20, 6, []),
  (20, 6, []),
  (20, 6, [])]
def chM (n : Nat) (M : Mm) : Mm := up M n 12 0
theorem i_Chart {d : Nat} (hd : 1 ≤ d) (S : Sp) (M : Mm) : callD d m_Chart_init [vR 0 0 S.length] (S ++ [(0, 0, List.replicate 15 none)]) M = some (none, S ++ chB S.length, chM S.length M) := by
  rw [c_Chart_init hd]
  rw [b_Chart_init_0, lnc S ([(0, 0, List.replicate 15 none)]) 1 rfl, al]
  rw [show setRef (([(0, 0, List.replicate 15 none)]) ++ ([(20, 4, [])])) 0 0 (S.length + 1) = (0, 0, [some (S.length + 1), none, none, none, none, none, none, none, none, none, none, none, none, none, none]) :: [(20, 4, [])] from rfl]
  rw [b_Chart_init_11, lnc S ((0, 0, [some (S.length + 1), none, none, none, none, none, none, none, none, none, none, none, none, none, none]) :: [(20, 4, [])]) 2 rfl, al]
  rw [show setRef (((0, 0, [some (S.length + 1), none, none, none, none, none, none, none, none, none, none, none, none, none, none]) :: [(20, 4, [])]) ++ ((26, 4, [some (S.length + 2 + 1 + 0), some (S.length + 2 + 1 + 1), some (S.length + 2 + 1 + 2), some (S.length + 2 + 1 + 3)]) :: List.replicate 4 (21, 8, []))) 0 1 (S.length + 2) = (0, 0, [some (S.length + 1), some (S.length + 2), none, none, none, none, none, none, none, none, none, none, none, none, none]) :: [(20, 4, []), (26, 4, [some (S.length + 3), some (S.length + 4), some (S.length + 5), some (S.length + 6)]), (21, 8, []), (21, 8, []), (21, 8, []), (21, 8, [])] from rfl]
  rw [b_Chart_init_22, lnc S ((0, 0, [some (S.length + 1), some (S.length + 2), none, none, none, none, none, none, none, none, none, none, none, none, none]) :: [(20, 4, []), (26, 4, [some (S.length + 3), some (S.length + 4), some (S.length + 5), some (S.length + 6)]), (21, 8, []), (21, 8, []), (21, 8, []), (21, 8, [])]) 7 rfl, al]
  rw [show setRef (((0, 0, [some (S.length + 1), some (S.length + 2), none, none, none, none, none, none, none, none, none, none, none, none, none]) :: [(20, 4, []), (26, 4, [some (S.length + 3), some (S.length + 4), some (S.length + 5), some (S.length + 6)]), (21, 8, []), (21, 8, []), (21, 8, []), (21, 8, [])]) ++ ([(20, 6, [])])) 0 2 (S.length + 7) = (0, 0, [some (S.length + 1), some (S.length + 2), some (S.length + 7), none, none, none, none, none, none, none, none, none, none, none, none]) :: [(20, 4, []), (26, 4, [some (S.length + 3), some (S.length + 4), some (S.length + 5), some (S.length + 6)]), (21, 8, []), (21, 8, []), (21, 8, []), (21, 8, []), (20, 6, [])] from rfl]
  rw [b_Chart_init_30, lnc S ((0, 0, [some (S.length + 1), some (S.length + 2), some (S.length + 7), none, none, none, none, none, none, none, none, none, none, none, none]) :: [(20, 4, []), (26, 4, [some (S.length + 3), some (S.length + 4), some (S.length + 5), some (S.length + 6)]), (21, 8, []), (21, 8, []), (21, 8, []), (21, 8, []), (20, 6, [])]) 8 rfl, al]
  rw [show setRef (((0, 0, [some (S.length + 1), some (S.length + 2), some (S.length + 7), none, none, none, none, none, none, none, none, none, none, none, none]) :: [(20, 4, []), (26, 4, [some (S.length + 3), some (S.length + 4), some (S.length + 5), some (S.length + 6)]), (21, 8, []), (21, 8, []), (21, 8, []), (21, 8, []), (20, 6, [])]) ++ ([(20, 6, [])])) 0 3 (S.length + 8) = (0, 0, [some (S.length + 1), some (S.length + 2), some (S.length + 7), some (S.length + 8), none, none, none, none, none, none, none, none, none, none, none]) :: [(20, 4, []), (26, 4, [some (S.length + 3), some (S.length + 4), some (S.length + 5), some (S.length + 6)]), (21, 8, []), (21, 8, []), (21, 8, []), (21, 8, []), (20, 6, []), (20, 6, [])] from rfl]
  rw [b_Chart_init_38, lnc S ((0, 0, [some (S.length + 1), some (S.length + 2), some (S.length + 7), some (S.length + 8), none, none, none, none, none, none, none, none, none, none, none]) :: [(20, 4, []), (26, 4, [some (S.length + 3), some (S.length + 4), some (S.length + 5), some (S.length + 6)]), (21, 8, []), (21, 8, []), (21, 8, []), (21, 8, []), (20, 6, []), (20, 6, [])]) 9 rfl, al]
  rw [show setRef (((0, 0, [some (S.length + 1), some (S.length + 2), some (S.length + 7), some (S.length + 8), none, none, none, none, none, none, none, none, none, none, none]) :: [(20, 4, []), (26, 4, [some (S.length + 3), some (S.length + 4), some (S.length + 5), some (S.length + 6)]), (21, 8, []), (21, 8, []), (21, 8, []), (21, 8, []), (20, 6, []), (20, 6, [])]) ++ ([(20, 6, [])])) 0 4 (S.length + 9) = (0, 0, [some (S.length + 1), some (S.length + 2), some (S.length + 7), some (S.length + 8), some (S.length + 9), none, none, none, none, none, none, none, none, none, none]) :: [(20, 4, []), (26, 4, [some (S.length + 3), some (S.length + 4), some (S.length + 5), some (S.length + 6)]), (21, 8, []), (21, 8, []), (21, 8, []), (21, 8, []), (20, 6, []), (20, 6, []), (20, 6, [])] from rfl]
  rw [b_Chart_init_46, lnc S ((0, 0, [some (S.length + 1), some (S.length + 2), some (S.length + 7), some (S.length + 8), some (S.length + 9), none, none, none, none, none, none, none, none, none, none]) :: [(20, 4, []), (26, 4, [some (S.length + 3), some (S.length + 4), some (S.length + 5), some (S.length + 6)]), (21, 8, []), (21, 8, []), (21, 8, []), (21, 8, []), (20, 6, []), (20, 6, []), (20, 6, [])]) 10 rfl, al]
  rw [show setRef (((0, 0, [some (S.length + 1), some (S.length + 2), some (S.length + 7), some (S.length + 8), some (S.length + 9), none, none, none, none, none, none, none, none, none, none]) :: [(20, 4, []), (26, 4, [some (S.length + 3), some (S.length + 4), some (S.length + 5), some (S.length + 6)]), (21, 8, []), (21, 8, []), (21, 8, []), (21, 8, []), (20, 6, []), (20, 6, []), (20, 6, [])]) ++ ([(20, 6, [])])) 0 5 (S.length + 10) = (0, 0, [some (S.length + 1), some (S.length + 2), some (S.length + 7), some (S.length + 8), some (S.length + 9), some (S.length + 10), none, none, none, none, none, none, none, none, none]) :: [(20, 4, []), (26, 4, [some (S.length + 3), some (S.length + 4), some (S.length + 5), some (S.length + 6)]), (21, 8, []), (21, 8, []), (21, 8, []), (21, 8, []), (20, 6, []), (20, 6, []), (20, 6, []), (20, 6, [])] from rfl]
  rw [b_Chart_init_54, lnc S ((0, 0, [some (S.length + 1), some (S.length + 2), some (S.length + 7), some (S.length + 8), some (S.length + 9), some (S.length + 10), none, none, none, none, none, none, none, none, none]) :: [(20, 4, []), (26, 4, [some (S.length + 3), some (S.length + 4), some (S.length + 5), some (S.length + 6)]), (21, 8, []), (21, 8, []), (21, 8, []), (21, 8, []), (20, 6, []), (20, 6, []), (20, 6, []), (20, 6, [])]) 11 rfl, al]
  rw [show setRef (((0, 0, [some (S.length + 1), some (S.length + 2), some (S.length + 7), some (S.length + 8), some (S.length + 9), some (S.length + 10), none, none, none, none, none, none, none, none, none]) :: [(20, 4, []), (26, 4, [some (S.length + 3), some (S.length + 4), some (S.length + 5), some (S.length + 6)]), (21, 8, []), (21, 8, []), (21, 8, []), (21, 8, []), (20, 6, []), (20, 6, []), (20, 6, []), (20, 6, [])]) ++ ([(20, 8, [])])) 0 6 (S.length + 11) = (0, 0, [some (S.length + 1), some (S.length + 2), some (S.length + 7), some (S.length + 8), some (S.length + 9), some (S.length + 10), some (S.length + 11), none, none, none, none, none, none, none, none]) :: [(20, 4, []), (26, 4, [some (S.length + 3), some (S.length + 4), some (S.length + 5), some (S.length + 6)]), (21, 8, []), (21, 8, []), (21, 8, []), (21, 8, []), (20, 6, []), (20, 6, []), (20, 6, []), (20, 6, []), (20, 8, [])] from rfl]
  rw [b_Chart_init_62, lnc S ((0, 0, [some (S.length + 1), some (S.length + 2), some (S.length + 7), some (S.length + 8), some (S.length + 9), some (S.length + 10), some (S.length + 11), none, none, none, none, none, none, none, none]) :: [(20, 4, []), (26, 4, [some (S.length + 3), some (S.length + 4), some (S.length + 5), some (S.length + 6)]), (21, 8, []), (21, 8, []), (21, 8, []), (21, 8, []), (20, 6, []), (20, 6, []), (20, 6, []), (20, 6, []), (20, 8, [])]) 12 rfl, al]
  rw [show setRef (((0, 0, [some (S.length + 1), some (S.length + 2), some (S.length + 7), some (S.length + 8), some (S.length + 9), some (S.length + 10), some (S.length + 11), none, none, none, none, none, none, none, none]) :: [(20, 4, []), (26, 4, [some (S.length + 3), some (S.length + 4), some (S.length + 5), some (S.length + 6)]), (21, 8, []), (21, 8, []), (21, 8, []), (21, 8, []), (20, 6, []), (20, 6, []), (20, 6, []), (20, 6, []), (20, 8, [])]) ++ ([(20, 8, [])])) 0 7 (S.length + 12) = (0, 0, [some (S.length + 1), some (S.length + 2), some (S.length + 7), some (S.length + 8), some (S.length + 9), some (S.length + 10), some (S.length + 11), some (S.length + 12), none, none, none, none, none, none, none]) :: [(20, 4, []), (26, 4, [some (S.length + 3), some (S.length + 4), some (S.length + 5), some (S.length + 6)]), (21, 8, []), (21, 8, []), (21, 8, []), (21, 8, []), (20, 6, []), (20, 6, []), (20, 6, []), (20, 6, []), (20, 8, []), (20, 8, [])] from rfl]
  rw [b_Chart_init_70, lnc S ((0, 0, [some (S.length + 1), some (S.length + 2), some (S.length + 7), some (S.length + 8), some (S.length + 9), some (S.length + 10), some (S.length + 11), some (S.length + 12), none, none, none, none, none, none, none]) :: [(20, 4, []), (26, 4, [some (S.length + 3), some (S.length + 4), some (S.length + 5), some (S.length + 6)]), (21, 8, []), (21, 8, []), (21, 8, []), (21, 8, []), (20, 6, []), (20, 6, []), (20, 6, []), (20, 6, []), (20, 8, []), (20, 8, [])]) 13 rfl, al]
  rw [show setRef (((0, 0, [some (S.length + 1), some (S.length + 2), some (S.length + 7), some (S.length + 8), some (S.length + 9), some (S.length + 10), some (S.length + 11), some (S.length + 12), none, none, none, none, none, none, none]) :: [(20, 4, []), (26, 4, [some (S.length + 3), some (S.length + 4), some (S.length + 5), some (S.length + 6)]), (21, 8, []), (21, 8, []), (21, 8, []), (21, 8, []), (20, 6, []), (20, 6, []), (20, 6, []), (20, 6, []), (20, 8, []), (20, 8, [])]) ++ ([(20, 8, [])])) 0 8 (S.length + 13) = (0, 0, [some (S.length + 1), some (S.length + 2), some (S.length + 7), some (S.length + 8), some (S.length + 9), some (S.length + 10), some (S.length + 11), some (S.length + 12), some (S.length + 13), none, none, none, none, none, none]) :: [(20, 4, []), (26, 4, [some (S.length + 3), some (S.length + 4), some (S.length + 5), some (S.length + 6)]), (21, 8, []), (21, 8, []), (21, 8, []), (21, 8, []), (20, 6, []), (20, 6, []), (20, 6, []), (20, 6, []), (20, 8, []), (20, 8, []), (20, 8, [])] from rfl]
  rw [b_Chart_init_78, lnc S ((0, 0, [some (S.length + 1), some (S.length + 2), some (S.length + 7), some (S.length + 8), some (S.length + 9), some (S.length + 10), some (S.length + 11), some (S.length + 12), some (S.length + 13), none, none, none, none, none, none]) :: [(20, 4, []), (26, 4, [some (S.length + 3), some (S.length + 4), some (S.length + 5), some (S.length + 6)]), (21, 8, []), (21, 8, []), (21, 8, []), (21, 8, []), (20, 6, []), (20, 6, []), (20, 6, []), (20, 6, []), (20, 8, []), (20, 8, []), (20, 8, [])]) 14 rfl, al]
  rw [show setRef (((0, 0, [some (S.length + 1), some (S.length + 2), some (S.length + 7), some (S.length + 8), some (S.length + 9), some (S.length + 10), some (S.length + 11), some (S.length + 12), some (S.length + 13), none, none, none, none, none, none]) :: [(20, 4, []), (26, 4, [some (S.length + 3), some (S.length + 4), some (S.length + 5), some (S.length + 6)]), (21, 8, []), (21, 8, []), (21, 8, []), (21, 8, []), (20, 6, []), (20, 6, []), (20, 6, []), (20, 6, []), (20, 8, []), (20, 8, []), (20, 8, [])]) ++ ([(20, 6, [])])) 0 9 (S.length + 14) = (0, 0, [some (S.length + 1), some (S.length + 2), some (S.length + 7), some (S.length + 8), some (S.length + 9), some (S.length + 10), some (S.length + 11), some (S.length + 12), some (S.length + 13), some (S.length + 14), none, none, none, none, none]) :: [(20, 4, []), (26, 4, [some (S.length + 3), some (S.length + 4), some (S.length + 5), some (S.length + 6)]), (21, 8, []), (21, 8, []), (21, 8, []), (21, 8, []), (20, 6, []), (20, 6, []), (20, 6, []), (20, 6, []), (20, 8, []), (20, 8, []), (20, 8, []), (20, 6, [])] from rfl]
  rw [b_Chart_init_86, lnc S ((0, 0, [some (S.length + 1), some (S.length + 2), some (S.length + 7), some (S.length + 8), some (S.length + 9), some (S.length + 10), some (S.length + 11), some (S.length + 12), some (S.length + 13), some (S.length + 14), none, none, none, none, none]) :: [(20, 4, []), (26, 4, [some (S.length + 3), some (S.length + 4), some (S.length + 5), some (S.length + 6)]), (21, 8, []), (21, 8, []), (21, 8, []), (21, 8, []), (20, 6, []), (20, 6, []), (20, 6, []), (20, 6, []), (20, 8, []), (20, 8, []), (20, 8, []), (20, 6, [])]) 15 rfl, al]
  rw [show setRef (((0, 0, [some (S.length + 1), some (S.length + 2), some (S.length + 7), some (S.length + 8), some (S.length + 9), some (S.length + 10), some (S.length + 11), some (S.length + 12), some (S.length + 13), some (S.length + 14), none, none, none, none, none]) :: [(20, 4, []), (26, 4, [some (S.length + 3), some (S.length + 4), some (S.length + 5), some (S.length + 6)]), (21, 8, []), (21, 8, []), (21, 8, []), (21, 8, []), (20, 6, []), (20, 6, []), (20, 6, []), (20, 6, []), (20, 8, []), (20, 8, []), (20, 8, []), (20, 6, [])]) ++ ((27, 6, [some (S.length + 15 + 1 + 0), some (S.length + 15 + 1 + 1), some (S.length + 15 + 1 + 2), some (S.length + 15 + 1 + 3), some (S.length + 15 + 1 + 4), some (S.length + 15 + 1 + 5)]) :: List.replicate 6 (20, 8, []))) 0 10 (S.length + 15) = (0, 0, [some (S.length + 1), some (S.length + 2), some (S.length + 7), some (S.length + 8), some (S.length + 9), some (S.length + 10), some (S.length + 11), some (S.length + 12), some (S.length + 13), some (S.length + 14), some (S.length + 15), none, none, none, none]) :: [(20, 4, []), (26, 4, [some (S.length + 3), some (S.length + 4), some (S.length + 5), some (S.length + 6)]), (21, 8, []), (21, 8, []), (21, 8, []), (21, 8, []), (20, 6, []), (20, 6, []), (20, 6, []), (20, 6, []), (20, 8, []), (20, 8, []), (20, 8, []), (20, 6, []), (27, 6, [some (S.length + 16), some (S.length + 17), some (S.length + 18), some (S.length + 19), some (S.length + 20), some (S.length + 21)]), (20, 8, []), (20, 8, []), (20, 8, []), (20, 8, []), (20, 8, []), (20, 8, [])] from rfl]
  rw [b_Chart_init_98, lnc S ((0, 0, [some (S.length + 1), some (S.length + 2), some (S.length + 7), some (S.length + 8), some (S.length + 9), some (S.length + 10), some (S.length + 11), some (S.length + 12), some (S.length + 13), some (S.length + 14), some (S.length + 15), none, none, none, none]) :: [(20, 4, []), (26, 4, [some (S.length + 3), some (S.length + 4), some (S.length + 5), some (S.length + 6)]), (21, 8, []), (21, 8, []), (21, 8, []), (21, 8, []), (20, 6, []), (20, 6, []), (20, 6, []), (20, 6, []), (20, 8, []), (20, 8, []), (20, 8, []), (20, 6, []), (27, 6, [some (S.length + 16), some (S.length + 17), some (S.length + 18), some (S.length + 19), some (S.length + 20), some (S.length + 21)]), (20, 8, []), (20, 8, []), (20, 8, []), (20, 8, []), (20, 8, []), (20, 8, [])]) 22 rfl, al]
  rw [show setRef (((0, 0, [some (S.length + 1), some (S.length + 2), some (S.length + 7), some (S.length + 8), some (S.length + 9), some (S.length + 10), some (S.length + 11), some (S.length + 12), some (S.length + 13), some (S.length + 14), some (S.length + 15), none, none, none, none]) :: [(20, 4, []), (26, 4, [some (S.length + 3), some (S.length + 4), some (S.length + 5), some (S.length + 6)]), (21, 8, []), (21, 8, []), (21, 8, []), (21, 8, []), (20, 6, []), (20, 6, []), (20, 6, []), (20, 6, []), (20, 8, []), (20, 8, []), (20, 8, []), (20, 6, []), (27, 6, [some (S.length + 16), some (S.length + 17), some (S.length + 18), some (S.length + 19), some (S.length + 20), some (S.length + 21)]), (20, 8, []), (20, 8, []), (20, 8, []), (20, 8, []), (20, 8, []), (20, 8, [])]) ++ ((28, 6, [some (S.length + 22 + 1 + 0), some (S.length + 22 + 1 + 1), some (S.length + 22 + 1 + 2), some (S.length + 22 + 1 + 3), some (S.length + 22 + 1 + 4), some (S.length + 22 + 1 + 5)]) :: List.replicate 6 (20, 6, []))) 0 11 (S.length + 22) = (0, 0, [some (S.length + 1), some (S.length + 2), some (S.length + 7), some (S.length + 8), some (S.length + 9), some (S.length + 10), some (S.length + 11), some (S.length + 12), some (S.length + 13), some (S.length + 14), some (S.length + 15), some (S.length + 22), none, none, none]) :: [(20, 4, []), (26, 4, [some (S.length + 3), some (S.length + 4), some (S.length + 5), some (S.length + 6)]), (21, 8, []), (21, 8, []), (21, 8, []), (21, 8, []), (20, 6, []), (20, 6, []), (20, 6, []), (20, 6, []), (20, 8, []), (20, 8, []), (20, 8, []), (20, 6, []), (27, 6, [some (S.length + 16), some (S.length + 17), some (S.length + 18), some (S.length + 19), some (S.length + 20), some (S.length + 21)]), (20, 8, []), (20, 8, []), (20, 8, []), (20, 8, []), (20, 8, []), (20, 8, []), (28, 6, [some (S.length + 23), some (S.length + 24), some (S.length + 25), some (S.length + 26), some (S.length + 27), some (S.length + 28)]), (20, 6, []), (20, 6, []), (20, 6, []), (20, 6, []), (20, 6, []), (20, 6, [])] from rfl]
  rw [b_Chart_init_110]
  rw [b_Chart_init_115, lnc S ((0, 0, [some (S.length + 1), some (S.length + 2), some (S.length + 7), some (S.length + 8), some (S.length + 9), some (S.length + 10), some (S.length + 11), some (S.length + 12), some (S.length + 13), some (S.length + 14), some (S.length + 15), some (S.length + 22), none, none, none]) :: [(20, 4, []), (26, 4, [some (S.length + 3), some (S.length + 4), some (S.length + 5), some (S.length + 6)]), (21, 8, []), (21, 8, []), (21, 8, []), (21, 8, []), (20, 6, []), (20, 6, []), (20, 6, []), (20, 6, []), (20, 8, []), (20, 8, []), (20, 8, []), (20, 6, []), (27, 6, [some (S.length + 16), some (S.length + 17), some (S.length + 18), some (S.length + 19), some (S.length + 20), some (S.length + 21)]), (20, 8, []), (20, 8, []), (20, 8, []), (20, 8, []), (20, 8, []), (20, 8, []), (28, 6, [some (S.length + 23), some (S.length + 24), some (S.length + 25), some (S.length + 26), some (S.length + 27), some (S.length + 28)]), (20, 6, []), (20, 6, []), (20, 6, []), (20, 6, []), (20, 6, []), (20, 6, [])]) 29 rfl, al]
  rw [show setRef (((0, 0, [some (S.length + 1), some (S.length + 2), some (S.length + 7), some (S.length + 8), some (S.length + 9), some (S.length + 10), some (S.length + 11), some (S.length + 12), some (S.length + 13), some (S.length + 14), some (S.length + 15), some (S.length + 22), none, none, none]) :: [(20, 4, []), (26, 4, [some (S.length + 3), some (S.length + 4), some (S.length + 5), some (S.length + 6)]), (21, 8, []), (21, 8, []), (21, 8, []), (21, 8, []), (20, 6, []), (20, 6, []), (20, 6, []), (20, 6, []), (20, 8, []), (20, 8, []), (20, 8, []), (20, 6, []), (27, 6, [some (S.length + 16), some (S.length + 17), some (S.length + 18), some (S.length + 19), some (S.length + 20), some (S.length + 21)]), (20, 8, []), (20, 8, []), (20, 8, []), (20, 8, []), (20, 8, []), (20, 8, []), (28, 6, [some (S.length + 23), some (S.length + 24), some (S.length + 25), some (S.length + 26), some (S.length + 27), some (S.length + 28)]), (20, 6, []), (20, 6, []), (20, 6, []), (20, 6, []), (20, 6, []), (20, 6, [])]) ++ ([(20, 6, [])])) 0 13 (S.length + 29) = (0, 0, [some (S.length + 1), some (S.length + 2), some (S.length + 7), some (S.length + 8), some (S.length + 9), some (S.length + 10), some (S.length + 11), some (S.length + 12), some (S.length + 13), some (S.length + 14), some (S.length + 15), some (S.length + 22), none, some (S.length + 29), none]) :: [(20, 4, []), (26, 4, [some (S.length + 3), some (S.length + 4), some (S.length + 5), some (S.length + 6)]), (21, 8, []), (21, 8, []), (21, 8, []), (21, 8, []), (20, 6, []), (20, 6, []), (20, 6, []), (20, 6, []), (20, 8, []), (20, 8, []), (20, 8, []), (20, 6, []), (27, 6, [some (S.length + 16), some (S.length + 17), some (S.length + 18), some (S.length + 19), some (S.length + 20), some (S.length + 21)]), (20, 8, []), (20, 8, []), (20, 8, []), (20, 8, []), (20, 8, []), (20, 8, []), (28, 6, [some (S.length + 23), some (S.length + 24), some (S.length + 25), some (S.length + 26), some (S.length + 27), some (S.length + 28)]), (20, 6, []), (20, 6, []), (20, 6, []), (20, 6, []), (20, 6, []), (20, 6, []), (20, 6, [])] from rfl]
  rw [b_Chart_init_123, lnc S ((0, 0, [some (S.length + 1), some (S.length + 2), some (S.length + 7), some (S.length + 8), some (S.length + 9), some (S.length + 10), some (S.length + 11), some (S.length + 12), some (S.length + 13), some (S.length + 14), some (S.length + 15), some (S.length + 22), none, some (S.length + 29), none]) :: [(20, 4, []), (26, 4, [some (S.length + 3), some (S.length + 4), some (S.length + 5), some (S.length + 6)]), (21, 8, []), (21, 8, []), (21, 8, []), (21, 8, []), (20, 6, []), (20, 6, []), (20, 6, []), (20, 6, []), (20, 8, []), (20, 8, []), (20, 8, []), (20, 6, []), (27, 6, [some (S.length + 16), some (S.length + 17), some (S.length + 18), some (S.length + 19), some (S.length + 20), some (S.length + 21)]), (20, 8, []), (20, 8, []), (20, 8, []), (20, 8, []), (20, 8, []), (20, 8, []), (28, 6, [some (S.length + 23), some (S.length + 24), some (S.length + 25), some (S.length + 26), some (S.length + 27), some (S.length + 28)]), (20, 6, []), (20, 6, []), (20, 6, []), (20, 6, []), (20, 6, []), (20, 6, []), (20, 6, [])]) 30 rfl, al]
  rw [show setRef (((0, 0, [some (S.length + 1), some (S.length + 2), some (S.length + 7), some (S.length + 8), some (S.length + 9), some (S.length + 10), some (S.length + 11), some (S.length + 12), some (S.length + 13), some (S.length + 14), some (S.length + 15), some (S.length + 22), none, some (S.length + 29), none]) :: [(20, 4, []), (26, 4, [some (S.length + 3), some (S.length + 4), some (S.length + 5), some (S.length + 6)]), (21, 8, []), (21, 8, []), (21, 8, []), (21, 8, []), (20, 6, []), (20, 6, []), (20, 6, []), (20, 6, []), (20, 8, []), (20, 8, []), (20, 8, []), (20, 6, []), (27, 6, [some (S.length + 16), some (S.length + 17), some (S.length + 18), some (S.length + 19), some (S.length + 20), some (S.length + 21)]), (20, 8, []), (20, 8, []), (20, 8, []), (20, 8, []), (20, 8, []), (20, 8, []), (28, 6, [some (S.length + 23), some (S.length + 24), some (S.length + 25), some (S.length + 26), some (S.length + 27), some (S.length + 28)]), (20, 6, []), (20, 6, []), (20, 6, []), (20, 6, []), (20, 6, []), (20, 6, []), (20, 6, [])]) ++ ([(20, 6, [])])) 0 14 (S.length + 30) = (0, 0, [some (S.length + 1), some (S.length + 2), some (S.length + 7), some (S.length + 8), some (S.length + 9), some (S.length + 10), some (S.length + 11), some (S.length + 12), some (S.length + 13), some (S.length + 14), some (S.length + 15), some (S.length + 22), none, some (S.length + 29), some (S.length + 30)]) :: [(20, 4, []), (26, 4, [some (S.length + 3), some (S.length + 4), some (S.length + 5), some (S.length + 6)]), (21, 8, []), (21, 8, []), (21, 8, []), (21, 8, []), (20, 6, []), (20, 6, []), (20, 6, []), (20, 6, []), (20, 8, []), (20, 8, []), (20, 8, []), (20, 6, []), (27, 6, [some (S.length + 16), some (S.length + 17), some (S.length + 18), some (S.length + 19), some (S.length + 20), some (S.length + 21)]), (20, 8, []), (20, 8, []), (20, 8, []), (20, 8, []), (20, 8, []), (20, 8, []), (28, 6, [some (S.length + 23), some (S.length + 24), some (S.length + 25), some (S.length + 26), some (S.length + 27), some (S.length + 28)]), (20, 6, []), (20, 6, []), (20, 6, []), (20, 6, []), (20, 6, []), (20, 6, []), (20, 6, []), (20, 6, [])] from rfl]
  rw [b_Chart_init_131]
  rfl
def plB (n : Nat) : Sp := [(3, 0, [some (n + 1), some (n + 2), some (n + 3), some (n + 4), some (n + 5), none, none, none]),
  (20, 60, []),
  (20, 60, []),
  (20, 60, []),
  (20, 60, []),
  (20, 60, [])]
def plM (n : Nat) (M : Mm) : Mm := up (up (up M n 5 0) n 6 0) n 7 0
theorem i_Plan {d : Nat} (hd : 1 ≤ d) (S : Sp) (M : Mm) : callD d m_Plan_init [vR 3 0 S.length] (S ++ [(3, 0, List.replicate 8 none)]) M = some (none, S ++ plB S.length, plM S.length M) := by
  rw [c_Plan_init hd, b_Plan_init_0, al, b_Plan_init_12, al, b_Plan_init_20, al, b_Plan_init_28, al, b_Plan_init_36, al, b_Plan_init_44, b_Plan_init_49, b_Plan_init_54, b_Plan_init_59]
  try simp only [ln, setRef_len]
  all_goals rfl
def vsB (n : Nat) : Sp := [(8, 0, [none, none, none, none, none, none, none, some (n + 1)]),
  (20, 8, [])]
def vsM (n : Nat) (M : Mm) : Mm := up (up (up (up (up (up (up M n 0 (-1)) n 1 (-1)) n 2 0) n 3 0) n 4 0) n 5 0) n 6 0
theorem i_Vessel {d : Nat} (hd : 1 ≤ d) (S : Sp) (M : Mm) : callD d m_Vessel_init [vR 8 0 S.length] (S ++ [(8, 0, List.replicate 8 none)]) M = some (none, S ++ vsB S.length, vsM S.length M) := by
  rw [c_Vessel_init hd, b_Vessel_init_0, b_Vessel_init_9, b_Vessel_init_14, b_Vessel_init_19, b_Vessel_init_24, b_Vessel_init_29, b_Vessel_init_34, b_Vessel_init_39, al, b_Vessel_init_47]
  try simp only [ln, setRef_len]
  all_goals rfl
def olB (n : Nat) : Sp := [(2, 0, [some (n + 1), none, none, some (n + 2), none, none]),
  (20, 8, []),
  (20, 20, [])]
def olM (n : Nat) (M : Mm) : Mm := up (up (up (up M n 1 (-1)) n 2 0) n 4 0) n 5 0
theorem i_Outlook {d : Nat} (hd : 1 ≤ d) (S : Sp) (M : Mm) : callD d m_Outlook_init [vR 2 0 S.length] (S ++ [(2, 0, List.replicate 6 none)]) M = some (none, S ++ olB S.length, olM S.length M) := by
  rw [c_Outlook_init hd, b_Outlook_init_0, al, b_Outlook_init_12, b_Outlook_init_17, b_Outlook_init_22, al, b_Outlook_init_30, b_Outlook_init_35, b_Outlook_init_40]
  try simp only [ln, setRef_len]
  all_goals rfl
def lfB (n : Nat) : Sp := [(1, 0, [some (n + 1), some (n + 2), none, none]),
  (20, 5, []),
  (20, 60, [])]
def lfM (n : Nat) (M : Mm) : Mm := up (up M n 2 0) n 3 0
theorem i_Life {d : Nat} (hd : 1 ≤ d) (S : Sp) (M : Mm) : callD d m_Life_init [vR 1 0 S.length] (S ++ [(1, 0, List.replicate 4 none)]) M = some (none, S ++ lfB S.length, lfM S.length M) := by
  rw [c_Life_init hd, b_Life_init_0, al, b_Life_init_11, al, b_Life_init_19, b_Life_init_24, b_Life_init_29]
  try simp only [ln, setRef_len]
  all_goals rfl
def trB (n : Nat) : Sp := [(7, 0, [some (n + 1), some (n + 6), some (n + 7)]),
  (25, 4, [some (n + 2), some (n + 3), some (n + 4), some (n + 5)]),
  (21, 60, []),
  (21, 60, []),
  (21, 60, []),
  (21, 60, []),
  (20, 4, []),
  (20, 4, [])]
def trM (n : Nat) (M : Mm) : Mm := up (up (up (up M (n + 7) 0 (-1)) (n + 7) 1 (-1)) (n + 7) 2 (-1)) (n + 7) 3 (-1)
theorem i_Trays {d : Nat} (hd : 2 ≤ d) (S : Sp) (M : Mm) : callD d m_Trays_init [vR 7 0 S.length] (S ++ [(7, 0, List.replicate 3 none)]) M = some (none, S ++ trB S.length, trM S.length M) := by
  rw [c_Trays_init (by omega), b_Trays_init_0, al, b_Trays_init_15, al, b_Trays_init_22, al, b_Trays_init_29]
  simp only [ln, setRef_len]
  generalize hT : setRef _ 0 2 _ = T
  have e : T = trB S.length := by rw [← hT]; rfl
  rw [e, show refOf (S ++ trB S.length) S.length 2 = some (S.length + 7) from rf_app S (trB S.length) 0 2, bR_some, c_Arrays_fill0 (by omega), b_Arrays_fill0_0, b_Arrays_fill0_5, if_pos (by decide), if_pos (by decide), show w32 (0 + 1) = 1 from rfl, b_Arrays_fill0_5, if_pos (by decide), if_pos (by decide), show w32 (1 + 1) = 2 from rfl, b_Arrays_fill0_5, if_pos (by decide), if_pos (by decide), show w32 (2 + 1) = 3 from rfl, b_Arrays_fill0_5, if_pos (by decide), if_pos (by decide), show w32 (3 + 1) = 4 from rfl, b_Arrays_fill0_5, if_neg (by decide), bndV_some]
  rfl

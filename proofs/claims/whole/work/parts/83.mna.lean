/-! ARRAYS OF ARRAYS: what the last part shows with the rest of the library -/
def MnaStep : Prop := ∀ (p : Program) (l : Launch) (e : Env) (R : Room) (s : State) (m : MethodId) (args : Array Value) (below : List Frame) (meth : Method) (c : Code) (T : State) (locs : List Loc) (cells slots : Nat) (own : String) (index : Nat) (ty : FieldType) (g : JFrame) (n k : Int32) (rest : List Value),
  Stand p l e R s m args below meth c T locs cells slots → p.tables.exec = Jvm.exec → s.vm.findClass own = some m.cls → (Jvm.Cond.classLink own index ("[" ++ (FieldType.array ty).toString)).before args s = true → (Jvm.Cond.arrayOver (.array ty)).before args s = true → (Jvm.Cond.arrayClass ty).before args s = true →
  g.method = m → decode c.code g.pc = .ok (.multianewarray index 2, 4) → g.stack = .int k :: .int n :: rest → ¬ n < 0 → ¬ k < 0 → n.toNatClampNeg ≤ 100 → k.toNatClampNeg ≤ 100 → (ty = .int ∨ ty = .long) →
  cells + (1 + n.toNatClampNeg) ≤ R.cells → slots + (n.toNatClampNeg + n.toNatClampNeg * k.toNatClampNeg) ≤ R.slots →
  ∃ (cA comp : ClassId) (T' : State), s.vm.findClass ("[" ++ (FieldType.array ty).toString) = some cA ∧ s.vm.findClass (FieldType.array ty).toString = some comp ∧
    T'.heap.size = T.heap.size + 1 + n.toNatClampNeg ∧ (∀ x : Nat, x < T.heap.size → T'.heap[x]? = T.heap[x]?) ∧
    T'.heap[T.heap.size]? = some (arrV cA n.toNatClampNeg (fun j => .ref (T.heap.size + 1 + j))) ∧
    (∀ j : Nat, j < n.toNatClampNeg → T'.heap[T.heap.size + 1 + j]? = some (arrV comp k.toNatClampNeg (fun _ => defaultValue ty))) ∧
    Stand p l e R s m args below meth c T' locs (cells + 1 + n.toNatClampNeg) (slots + n.toNatClampNeg + n.toNatClampNeg * k.toNatClampNeg) ∧
    ∀ target, Steps p.tables e below (T'.setTop { g with pc := g.pc + 4, stack := .ref T.heap.size :: rest }) target → Steps p.tables e below (T.setTop g) target

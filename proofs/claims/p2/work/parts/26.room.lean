/-! the room as the heap has it -/
def hsl (H : Heap) (k : Nat) : Nat := ((H.toList.drop k).map (·.slots.size)).sum
/-- what the counters say of the heap may be used -/
theorem W.know {p : Program} {l : Launch} {e : Env} {R : Room} {s : State} {m : MethodId} {args : Array Value} {below : List Frame} {meth : Method} {c : Code} {H : Heap} {locs : List Loc} {cells slots : Nat} {Q : State → Prop} {g : JFrame}
    (kk : s.heap.size ≤ H.size → H.size ≤ s.heap.size + cells → hsl H s.heap.size ≤ slots → W p l e R s m args below meth c H locs cells slots Q g) : W p l e R s m args below meth c H locs cells slots Q g := by
  intro T hT X
  obtain ⟨-, h1, h2, -, h3, -⟩ := X.same
  have e1 : (T.setVm s.vm).heap = H := hT
  rw [e1] at h1 h2 h3
  exact kk h1 h2 h3 T hT X
/-- the counters may be drawn as near as the heap allows -/
theorem W.tight {p : Program} {l : Launch} {e : Env} {R : Room} {s : State} {m : MethodId} {args : Array Value} {below : List Frame} {meth : Method} {c : Code} {H : Heap} {locs : List Loc} {cells slots k n : Nat} {Q : State → Prop} {g : JFrame}
    (h1 : H.size ≤ s.heap.size + k) (h2 : hsl H s.heap.size ≤ n) (kk : W p l e R s m args below meth c H locs k n Q g) : W p l e R s m args below meth c H locs cells slots Q g := by
  intro T hT X
  refine kk T hT { X with same := ?_ }
  obtain ⟨a1, a2, a3, a4, a5, a6⟩ := X.same
  have e1 : (T.setVm s.vm).heap = H := hT
  refine ⟨a1, a2, ?_, a4, ?_, a6⟩
  · rw [e1]; exact h1
  · rw [e1]; exact h2

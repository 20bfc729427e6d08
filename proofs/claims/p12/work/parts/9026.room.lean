/-! the room as the heap has it -/
def hsl (H : Heap) (k : Nat) : Nat := ((H.toList.drop k).map (·.slots.size)).sum
/-- what the counters say of the heap may be used -/
theorem W.know {p : Program} {l : Launch} {e : Env} {R : Room} {s : State} {m : MethodId} {args : Array Value} {below : List Frame} {meth : Method} {c : Code} {H : Heap} {locs : List Loc} {cells slots : Nat} {Q : State → Prop} {g : JFrame}
    (kk : s.heap.size ≤ H.size → H.size ≤ s.heap.size + cells → hsl H s.heap.size ≤ slots → W p l e R s m args below meth c H locs cells slots Q g) : W p l e R s m args below meth c H locs cells slots Q g := by
  intro T hT X
  obtain ⟨-, h1, h2, -, h3, -⟩ := X.same
  have e1 : (T.setVm s.vm).heap = H := hT
  rw [e1] at h1 h2 h3
  exact kk h1 h2 h3 T hT X
/-- the counters may be drawn as near as the heap allows -/
theorem W.tight {p : Program} {l : Launch} {e : Env} {R : Room} {s : State} {m : MethodId} {args : Array Value} {below : List Frame} {meth : Method} {c : Code} {H : Heap} {locs : List Loc} {cells slots k n : Nat} {Q : State → Prop} {g : JFrame}
    (h1 : H.size ≤ s.heap.size + k) (h2 : hsl H s.heap.size ≤ n) (kk : W p l e R s m args below meth c H locs k n Q g) : W p l e R s m args below meth c H locs cells slots Q g := by
  intro T hT X
  refine kk T hT { X with same := ?_ }
  obtain ⟨a1, a2, a3, a4, a5, a6⟩ := X.same
  have e1 : (T.setVm s.vm).heap = H := hT
  refine ⟨a1, a2, ?_, a4, ?_, a6⟩
  · rw [e1]; exact h1
  · rw [e1]; exact h2
theorem hsl_step (H : Heap) (k : Nat) (h : k < H.size) : hsl H k = H[k].slots.size + hsl H (k + 1) := by
  unfold hsl
  rw [List.drop_eq_getElem_cons (by simpa using h), List.map_cons, List.sum_cons]
  simp
theorem hsl_end (H : Heap) : hsl H H.size = 0 := by
  unfold hsl
  rw [List.drop_eq_nil_of_le (by simp)]
  rfl
/-- old cells keep their sizes: what is counted from k on grows by the new cells alone -/
theorem hsl_split {H0 H : Heap} (hle : H0.size ≤ H.size) (hs : ∀ (a : Nat) (c : Cell), H0[a]? = some c → ∃ c2 : Cell, H[a]? = some c2 ∧ c2.slots.size = c.slots.size) : ∀ (d k : Nat), k + d = H0.size → hsl H k = hsl H0 k + hsl H H0.size
  | 0, k, e => by
    have e2 : k = H0.size := by omega
    rw [e2, hsl_end, Nat.zero_add]
  | d + 1, k, e => by
    have hk : k < H0.size := by omega
    have hk2 : k < H.size := by omega
    rw [hsl_step H k hk2, hsl_step H0 k hk, hsl_split hle hs d (k + 1) (by omega)]
    obtain ⟨c2, h1, h2⟩ := hs k H0[k] (Array.getElem?_eq_getElem hk)
    rw [Array.getElem?_eq_getElem hk2] at h1
    have h3 := Option.some.inj h1
    rw [h3, h2]
    omega
theorem W.know2 {p : Program} {l : Launch} {e : Env} {R : Room} {s : State} {m : MethodId} {args : Array Value} {below : List Frame} {meth : Method} {c : Code} {H : Heap} {locs : List Loc} {cells slots : Nat} {Q : State → Prop} {g : JFrame}
    (kk : H.size ≤ s.heap.size + cells → (∀ k, k ≤ s.heap.size → hsl H k ≤ hsl s.heap k + slots) → W p l e R s m args below meth c H locs cells slots Q g) : W p l e R s m args below meth c H locs cells slots Q g := by
  intro T hT X
  obtain ⟨-, h1, h2, -, h3, h4⟩ := X.same
  have e1 : (T.setVm s.vm).heap = H := hT
  rw [e1] at h1 h2 h3
  refine kk h2 (fun k hk => ?_) T hT X
  have g := hsl_split h1 (fun a c hc => by
    obtain ⟨c2, g1, -, g3, -⟩ := h4 a c hc
    rw [e1] at g1
    exact ⟨c2, g1, g3⟩) (s.heap.size - k) k (by omega)
  rw [g]
  have h5 : hsl H s.heap.size ≤ slots := h3
  omega
/-- what a call made: b parcels, each two cells of eleven slots -/
def gr (Hh H : Heap) (b : Nat) : Prop := H.size ≤ Hh.size + 2 * b ∧ ∀ k, k ≤ Hh.size → hsl H k ≤ hsl Hh k + 11 * b
theorem gr_trans {H0 H1 H2 : Heap} {a b : Nat} (hle : H0.size ≤ H1.size) (h1 : gr H0 H1 a) (h2 : gr H1 H2 b) : gr H0 H2 (a + b) := by
  refine ⟨?_, fun k hk => ?_⟩
  · have := h1.1
    have := h2.1
    omega
  · have := h1.2 k hk
    have := h2.2 k (by omega)
    omega
theorem W.grown {p : Program} {l : Launch} {e : Env} {R : Room} {s : State} {m : MethodId} {args : Array Value} {below : List Frame} {meth : Method} {c : Code} {H : Heap} {locs : List Loc} {cells slots b : Nat} {Q : State → Prop} {g : JFrame}
    (h : gr s.heap H b) (kk : W p l e R s m args below meth c H locs (2 * b) (11 * b) Q g) : W p l e R s m args below meth c H locs cells slots Q g :=
  W.tight h.1 (by have := h.2 s.heap.size (Nat.le_refl _); rw [hsl_end] at this; omega) kk
theorem W.grew {p : Program} {l : Launch} {e : Env} {R : Room} {s : State} {m : MethodId} {args : Array Value} {below : List Frame} {meth : Method} {c : Code} {H : Heap} {locs : List Loc} {b : Nat} {Q : State → Prop} {g : JFrame}
    (kk : gr s.heap H b → W p l e R s m args below meth c H locs (2 * b) (11 * b) Q g) : W p l e R s m args below meth c H locs (2 * b) (11 * b) Q g := W.know2 (fun h1 h2 => kk ⟨h1, h2⟩)

def nwF : List (String × Nat × String × String × String × String) := [(RX1, 9, "CongestionBench$Parcel", "after", "LCongestionBench$Parcel;", "CongestionBench"), (RX1, 27, "CongestionBench$Parcel", "due", "I", "CongestionBench"), (RX10, 38, "CongestionBench$Flow", "sender", "LCongestionBench$Sender;", "CongestionBench"), (RX10, 48, "CongestionBench$Flow", "receiver", "LCongestionBench$Receiver;", "CongestionBench"), (RX10, 65, "CongestionBench$Road", "sent", "I", "CongestionBench"), (RX10, 98, "CongestionBench$Sender", "mostCwnd", "I", "CongestionBench"), (RX10, 102, "CongestionBench$Road", "way", "LCongestionBench$Chain;", "CongestionBench"), (RX10, 106, "CongestionBench$Chain", "size", "I", "CongestionBench"), (RX10, 115, "CongestionBench$Road", "came", "I", "CongestionBench"), (RX10, 118, "CongestionBench$Parcel", "flow", "I", "CongestionBench"), (RX10, 127, "CongestionBench$Road", "spare", "LCongestionBench$Chain;", "CongestionBench"), (RX10, 140, "CongestionBench$Road", "acks", "LCongestionBench$Chain;", "CongestionBench"), (RX10, 156, "CongestionBench$Receiver", "owedAt", "I", "CongestionBench"), (RX10, 162, "CongestionBench$Sender", "timer", "LCongestionBench$Timer;", "CongestionBench"), (RX10, 166, "CongestionBench$Timer", "due", "I", "CongestionBench"), (RX6, 35, "CongestionBench$Parcel", "number", "I", "CongestionBench"), (RX6, 61, "CongestionBench$Parcel", "special", "Z", "CongestionBench"), (RX7, 58, "CongestionBench$Parcel", "due", "I", "CongestionBench"), (RX7, 78, "CongestionBench$Chain", "size", "I", "CongestionBench"), (RX7, 85, "CongestionBench$Parcel", "flow", "I", "CongestionBench"), (RX7, 88, "CongestionBench$Parcel", "number", "I", "CongestionBench"), (RX7, 91, "CongestionBench$Parcel", "special", "Z", "CongestionBench"), (RX7, 98, "CongestionBench$Receiver", "number", "I", "CongestionBench"), (RX7, 101, "CongestionBench$Receiver", "next", "I", "CongestionBench"), (RX7, 104, "CongestionBench$Receiver", "window", "I", "CongestionBench"), (RX7, 107, "CongestionBench$Parcel", "window", "I", "CongestionBench"), (RX7, 108, "CongestionBench$Receiver", "kept", "LCongestionBench$Marks;", "CongestionBench"), (RX7, 112, "CongestionBench$Parcel", "board", "[J", "CongestionBench"), (RX8, 56, "CongestionBench$Parcel", "number", "I", "CongestionBench"), (RX8, 62, "CongestionBench$Parcel", "window", "I", "CongestionBench"), (RX8, 68, "CongestionBench$Parcel", "special", "Z", "CongestionBench"), (RX8, 76, "CongestionBench$Parcel", "board", "[J", "CongestionBench"), (RX8, 114, "CongestionBench$Timer", "due", "I", "CongestionBench"), (RX8, 117, "CongestionBench$Timer", "measured", "I", "CongestionBench"), (RX8, 137, "CongestionBench$Timer", "rto", "I", "CongestionBench"), (RX8, 140, "CongestionBench$Timer", "srtt", "I", "CongestionBench"), (RX8, 143, "CongestionBench$Timer", "variance", "I", "CongestionBench"), (RX8, 162, "CongestionBench$Cubic", "wmax", "I", "CongestionBench"), (RX8, 165, "CongestionBench$Cubic", "k", "I", "CongestionBench"), (RX8, 182, "CongestionBench$Board", "sentAgain", "LCongestionBench$Marks;", "CongestionBench")]
def nwM : List (String × Nat × MethodName × String) := [(RX0, 11, yX4_init, "CongestionBench"), (RX10, 9, yX7_init, "CongestionBench"), (RX6, 17, yX4_init, "CongestionBench"), (RX7, 26, yX1_init, "CongestionBench"), (RX7, 84, yX5_init, "CongestionBench"), (RX8, 27, yX9_init, "CongestionBench"), (RX8, 34, yX0_init, "CongestionBench"), (RX8, 41, yX2_init, "CongestionBench")]
/-- the words on private members of nest mates, and on arrays of flows, at a state -/
def nw (U : State) : Prop := (∀ q ∈ nwF, va_Nw (.fieldLinkNest q.1 q.2.1 q.2.2.1 q.2.2.2.1 q.2.2.2.2.1 q.2.2.2.2.2) U) ∧ (∀ q ∈ nwM, va_Nw (.methodLinkNest q.1 q.2.1 q.2.2.1 q.2.2.2) U) ∧ va_AO RX3 U
theorem nw.warm {s U : State} (h : nw s) (hW : s.WarmedH U.vm) : nw U := ⟨fun q hq => va_Nw.warmF hW (h.1 q hq), fun q hq => va_Nw.warmM hW (h.2.1 q hq), va_AO.moved hW.alike h.2.2⟩
theorem nw.same {u U : State} (h : nw u) (e : u.vm = U.vm) : nw U := ⟨fun q hq => va_Nw.same rfl e (h.1 q hq), fun q hq => va_Nw.same rfl e (h.2.1 q hq), va_AO.moved (by rw [e]; exact Vm.Alike.refl _) h.2.2⟩
theorem nw.f {U : State} (h : nw U) (a : String) (i : Nat) (b n d k : String) (hq : (a, i, b, n, d, k) ∈ nwF) : va_Nw (.fieldLinkNest a i b n d k) U := h.1 _ hq
theorem nw.m {U : State} (h : nw U) (a : String) (i : Nat) (y : MethodName) (k : String) (hq : (a, i, y, k) ∈ nwM) : va_Nw (.methodLinkNest a i y k) U := h.2.1 _ hq
theorem nw.o {U : State} (h : nw U) : va_AO RX3 U := h.2.2
abbrev pw_ty (cI cJ cZ cO : ClassId) : List (ClassId × FieldType) := [(cI, .int), (cJ, .long), (cZ, .boolean), (cO, .object RX3)]
/-- a contract's start: the cells, the tables, the nest words -/
abbrev pw_s (D : va_G) (cI cJ cZ cO : ClassId) (sz : Nat) (ws : va_W) : State → Prop := fun U => U.heap.size = sz ∧ va_P D vwCl ws U.heap ∧ va_K D vwCl (pw_ty cI cJ cZ cO) U ∧ va_D (fun _ => True) ws ∧ nw U
/-- a contract's end: the cells -/
abbrev pw_t (D : va_G) (cI cJ cZ cO : ClassId) (A : Nat → Prop) (ws : va_W) : State → Prop := fun t => va_P D vwCl ws t.heap ∧ va_K D vwCl (pw_ty cI cJ cZ cO) t ∧ va_D A ws
theorem pw_blind {D : va_G} {cI cJ cZ cO : ClassId} {sz : Nat} {ws : va_W} {av : List Value} : FrameBlind (va_Pc av (pw_s D cI cJ cZ cO sz ws)) := fun a U g mk q => by
  obtain ⟨q0, q1, qP, qK, qD, qN⟩ := q
  exact ⟨q0, q1, qP, va_K.moved (u := U) (U := U.calling g mk a) (Vm.Alike.refl U.vm) qK, qD, nw.same (u := U) (U := U.calling g mk a) qN rfl⟩
theorem pw_start {D : va_G} {cI cJ cZ cO : ClassId} {ws : va_W} {s U : State} {H : Heap} {A : Nat → Prop} (hU : U.heap = H) (hW : s.WarmedH U.vm) (hP : va_P D vwCl ws H) (hK : va_K D vwCl (pw_ty cI cJ cZ cO) s) (hD : va_D A ws) (hN : nw s) : pw_s D cI cJ cZ cO H.size ws U :=
  ⟨by rw [hU], by rw [hU]; exact hP, va_K.moved hW.alike hK, hD.weaken (fun _ _ _ _ => trivial), hN.warm hW⟩
/-- an array class is known by its name -/
theorem pw_uq {D : va_G} {cl : List vw_C} {tys : List (ClassId × FieldType)} {s : State} {i j : Nat} {c1 c2 : ClassId} {ty : FieldType} (hK : va_K D cl tys s) (h1 : tys[i]? = some (c1, ty)) (h2 : tys[j]? = some (c2, ty)) : c1 = c2 := by
  have a := (hK.2 i _ h1).2
  have b := (hK.2 j _ h2).2
  cases ty with
  | object C =>
    obtain ⟨_, _, _, _, _, x⟩ := a
    obtain ⟨_, _, _, _, _, y⟩ := b
    exact Option.some.inj (x.symm.trans y)
  | _ => exact Option.some.inj (Eq.trans (Eq.symm a) b)
theorem pw_P0 {D : va_G} {cl : List vw_C} {H : Heap} : va_P D cl [] H := fun k q h => by simp at h
theorem pw_D0 {A : Nat → Prop} : va_D A [] := ⟨fun i j p q h => by simp at h, fun k q h => by simp at h⟩
/-- a number within bounds: 1, else 0 -/
def wi (n lo hi : Int32) : Int32 := if n < lo then 0 else if hi < n then 0 else 1
theorem wi_z (n lo hi : Int32) : wi n lo hi = 0 ∨ wi n lo hi = 1 := by unfold wi; split; exact Or.inl rfl; split; exact Or.inl rfl; exact Or.inr rfl
/-- a flow's number among n -/
def isf (f : Int32) (n : Nat) : Int32 := if f < 0 then 0 else if nI n ≤ f then 0 else 1
theorem isf_0 (f : Int32) : isf f 0 = 0 := by
  unfold isf
  by_cases h : f < 0
  · rw [if_pos h]
  · rw [if_neg h, if_pos (by rw [nI_0]; exact Int32.not_lt.mp h)]
def lk (a b c d : Int32) : Int32 := if wi a 1 100 = 0 then 0 else if wi b 0 100 = 0 then 0 else if wi c 1 1000 = 0 then 0 else if wi d 1 1000 = 0 then 0 else 1
def tl (w : Int32) : Int32 := if w = 2 then 0 else if w = 3 then 0 else if w = 4 then 0 else if w = 5 then 0 else if w = 6 then 0 else if w = 7 then 0 else if w = 8 then 0 else if w = 9 then 0 else -1
def cnt (w : Int32) : Int32 := if w = 0 then 0 else if w = 1 then 0 else tl w
def fl (k : Int32) : Int32 := if wi k 0 3 = 0 then -1 else 0
def ls0 (n : Int32) : Int32 := if n < 0 then 0 else 1
def rn (t : Int32) : Int32 := if wi t 1 20000 = 0 then -1 else 0
theorem nI_max1 {j : Nat} (h : 1 ≤ j) (hj : j ≤ 20000) : (if (1 : Int32) < nI j then nI j else 1) = nI j := by
  by_cases q : (1 : Int32) < nI j
  · rw [if_pos q]
  · rw [if_neg q]
    rcases Nat.lt_or_ge 1 j with w | w
    · exact absurd (nI_lt (a := 1) w (by omega)) q
    · rw [show j = 1 by omega]
      decide
/-- a number within 1 .. 20000 is a natural one -/
theorem wi_run {t : Int32} (h : ¬ wi t 1 20000 = 0) : ∃ j : Nat, 1 ≤ j ∧ j ≤ 20000 ∧ t = nI j := by
  unfold wi at h
  by_cases h1 : t < 1
  · rw [if_pos h1] at h; exact absurd rfl h
  · rw [if_neg h1] at h
    by_cases h2 : 20000 < t
    · rw [if_pos h2] at h; exact absurd rfl h
    · have h3 : ¬ t < 0 := fun q => h1 (Int32.lt_trans q (by decide))
      obtain ⟨j, hj, rfl⟩ := nI_of2 (M := 20000) (n := 20000) (by decide) h3 (Int32.not_lt.mp h2)
      refine ⟨j, ?_, hj, rfl⟩
      rcases Nat.lt_or_ge j 1 with q | q
      · exact absurd (by rw [show j = 0 by omega]; decide) h1
      · exact q

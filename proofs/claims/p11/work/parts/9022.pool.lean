/-! the pool: parcels and their boards -/
abbrev pf (cJ : ClassId) (kd : Nat → Bool) (pi : Nat → Nat → Int32) (bd : Nat → Nat) (af : Nat → Option Nat) (bo : Nat → Nat → Int64) : Nat → va_E := fun a => if kd a = true then .inl (cJ, 4, .inr (.inl (bo a))) else .inr (5, [.int (pi 0 a), .int (pi 1 a), .int (pi 2 a), .int (pi 3 a), .int (pi 4 a), .ref (bd a), va_rf (af a)])
theorem pf_p {cJ : ClassId} {kd : Nat → Bool} {pi : Nat → Nat → Int32} {bd : Nat → Nat} {af : Nat → Option Nat} {bo : Nat → Nat → Int64} {a : Nat} (h : kd a = false) : pf cJ kd pi bd af bo a = .inr (5, [.int (pi 0 a), .int (pi 1 a), .int (pi 2 a), .int (pi 3 a), .int (pi 4 a), .ref (bd a), va_rf (af a)]) := by simp [pf, h]
theorem pf_b {cJ : ClassId} {kd : Nat → Bool} {pi : Nat → Nat → Int32} {bd : Nat → Nat} {af : Nat → Option Nat} {bo : Nat → Nat → Int64} {a : Nat} (h : kd a = true) : pf cJ kd pi bd af bo a = .inl (cJ, 4, .inr (.inl (bo a))) := by simp [pf, h]
def upp (pi : Nat → Nat → Int32) (k a : Nat) (x : Int32) : Nat → Nat → Int32 := fun j b => if j = k then (if b = a then x else pi j b) else pi j b
theorem pf_u0 {cJ : ClassId} {kd : Nat → Bool} {pi : Nat → Nat → Int32} {bd : Nat → Nat} {af : Nat → Option Nat} {bo : Nat → Nat → Int64} {a : Nat} {x : Int32} (h : kd a = false) : va_up (pf cJ kd pi bd af bo) a (.inr (5, [.int x, .int (pi 1 a), .int (pi 2 a), .int (pi 3 a), .int (pi 4 a), .ref (bd a), va_rf (af a)])) = pf cJ kd (upp pi 0 a x) bd af bo := by
  funext b
  by_cases hb : b = a
  · subst hb; simp [va_up, pf, h, upp]
  · simp [va_up, pf, upp, hb]
theorem pf_u1 {cJ : ClassId} {kd : Nat → Bool} {pi : Nat → Nat → Int32} {bd : Nat → Nat} {af : Nat → Option Nat} {bo : Nat → Nat → Int64} {a : Nat} {x : Int32} (h : kd a = false) : va_up (pf cJ kd pi bd af bo) a (.inr (5, [.int (pi 0 a), .int x, .int (pi 2 a), .int (pi 3 a), .int (pi 4 a), .ref (bd a), va_rf (af a)])) = pf cJ kd (upp pi 1 a x) bd af bo := by
  funext b
  by_cases hb : b = a
  · subst hb; simp [va_up, pf, h, upp]
  · simp [va_up, pf, upp, hb]
theorem pf_u2 {cJ : ClassId} {kd : Nat → Bool} {pi : Nat → Nat → Int32} {bd : Nat → Nat} {af : Nat → Option Nat} {bo : Nat → Nat → Int64} {a : Nat} {x : Int32} (h : kd a = false) : va_up (pf cJ kd pi bd af bo) a (.inr (5, [.int (pi 0 a), .int (pi 1 a), .int x, .int (pi 3 a), .int (pi 4 a), .ref (bd a), va_rf (af a)])) = pf cJ kd (upp pi 2 a x) bd af bo := by
  funext b
  by_cases hb : b = a
  · subst hb; simp [va_up, pf, h, upp]
  · simp [va_up, pf, upp, hb]
theorem pf_u3 {cJ : ClassId} {kd : Nat → Bool} {pi : Nat → Nat → Int32} {bd : Nat → Nat} {af : Nat → Option Nat} {bo : Nat → Nat → Int64} {a : Nat} {x : Int32} (h : kd a = false) : va_up (pf cJ kd pi bd af bo) a (.inr (5, [.int (pi 0 a), .int (pi 1 a), .int (pi 2 a), .int x, .int (pi 4 a), .ref (bd a), va_rf (af a)])) = pf cJ kd (upp pi 3 a x) bd af bo := by
  funext b
  by_cases hb : b = a
  · subst hb; simp [va_up, pf, h, upp]
  · simp [va_up, pf, upp, hb]
theorem pf_u4 {cJ : ClassId} {kd : Nat → Bool} {pi : Nat → Nat → Int32} {bd : Nat → Nat} {af : Nat → Option Nat} {bo : Nat → Nat → Int64} {a : Nat} {x : Int32} (h : kd a = false) : va_up (pf cJ kd pi bd af bo) a (.inr (5, [.int (pi 0 a), .int (pi 1 a), .int (pi 2 a), .int (pi 3 a), .int x, .ref (bd a), va_rf (af a)])) = pf cJ kd (upp pi 4 a x) bd af bo := by
  funext b
  by_cases hb : b = a
  · subst hb; simp [va_up, pf, h, upp]
  · simp [va_up, pf, upp, hb]
theorem pf_u6 {cJ : ClassId} {kd : Nat → Bool} {pi : Nat → Nat → Int32} {bd : Nat → Nat} {af : Nat → Option Nat} {bo : Nat → Nat → Int64} {a : Nat} {x : Option Nat} (h : kd a = false) : va_up (pf cJ kd pi bd af bo) a (.inr (5, [.int (pi 0 a), .int (pi 1 a), .int (pi 2 a), .int (pi 3 a), .int (pi 4 a), .ref (bd a), va_rf x])) = pf cJ kd pi bd (va_up af a x) bo := by
  funext b
  by_cases hb : b = a
  · subst hb; simp [va_up, pf, h]
  · simp [va_up, pf, hb]
def ap_fi (la fi : Option Nat) (q : Nat) : Option Nat := match la with
  | none => some q
  | some _ => fi
def ap_af (af : Nat → Option Nat) (la : Option Nat) (q : Nat) : Nat → Option Nat := match la with
  | none => va_up af q none
  | some z => va_up (va_up af q none) z (some q)
def tk_fi (af : Nat → Option Nat) (fi : Option Nat) : Option Nat := match fi with
  | none => none
  | some z => af z
def tk_la (af : Nat → Option Nat) (fi la : Option Nat) : Option Nat := match tk_fi af fi with
  | none => none
  | some _ => la
def tk_n (fi : Option Nat) (n : Int32) : Int32 := match fi with
  | none => n
  | some _ => n - 1
def tk_af (af : Nat → Option Nat) (fi : Option Nat) : Nat → Option Nat := match fi with
  | none => af
  | some z => va_up af z none
/-- a chain's links -/
def lnk (af : Nat → Option Nat) : List Nat → Prop
  | [] => True
  | x :: t => af x = t.head? ∧ lnk af t
def ch (af : Nat → Option Nat) (fi la : Option Nat) (xs : List Nat) : Prop := fi = xs.head? ∧ la = xs.getLast? ∧ lnk af xs
theorem lk_congr {af af2 : Nat → Option Nat} : ∀ {xs : List Nat}, (∀ a ∈ xs, af2 a = af a) → lnk af xs → lnk af2 xs
  | [], _, _ => trivial
  | x :: t, h, hl => ⟨(h x List.mem_cons_self).trans hl.1, lk_congr (fun a ha => h a (List.mem_cons_of_mem _ ha)) hl.2⟩
theorem lk_at {af : Nat → Option Nat} {b : Nat} {zs : List Nat} : ∀ {ys : List Nat}, lnk af (ys ++ b :: zs) → af b = zs.head?
  | [], h => h.1
  | _ :: _, h => lk_at h.2
theorem hd_ins {ys zs : List Nat} {b q : Nat} : (ys ++ b :: q :: zs).head? = (ys ++ b :: zs).head? := by cases ys <;> rfl
theorem lk_ins {af : Nat → Option Nat} {q b : Nat} {zs : List Nat} : ∀ {ys : List Nat}, lnk af (ys ++ b :: zs) → (ys ++ b :: zs).Nodup → q ∉ ys ++ b :: zs → lnk (va_up (va_up af q zs.head?) b (some q)) (ys ++ b :: q :: zs)
  | [], h, hn, hq => by
    have hqb : q ≠ b := fun e => hq (by simp [e])
    have hn2 := (List.nodup_cons.mp hn)
    refine ⟨va_up_self _ _ _, ?_, lk_congr (fun a ha => ?_) h.2⟩
    · rw [va_up_ne _ _ hqb, va_up_self]
    · have h1 : a ≠ b := fun e => hn2.1 (e ▸ ha)
      have h2 : a ≠ q := fun e => hq (by rw [← e]; simp [ha])
      rw [va_up_ne _ _ h1, va_up_ne _ _ h2]
  | y :: ys, h, hn, hq => by
    have hn2 := List.nodup_cons.mp hn
    have h1 : y ≠ b := fun e => hn2.1 (by rw [e]; simp)
    have h2 : y ≠ q := fun e => hq (by rw [← e]; simp)
    refine ⟨?_, lk_ins h.2 hn2.2 (fun m => hq (List.mem_cons_of_mem _ m))⟩
    rw [va_up_ne _ _ h1, va_up_ne _ _ h2, h.1]
    exact hd_ins.symm
theorem lk_front {af : Nat → Option Nat} {q : Nat} {xs : List Nat} (h : lnk af xs) (hq : q ∉ xs) : lnk (va_up af q xs.head?) (q :: xs) :=
  ⟨va_up_self _ _ _, lk_congr (fun a ha => va_up_ne _ _ (fun e => hq (e ▸ ha))) h⟩
theorem ch_append {af : Nat → Option Nat} {fi la : Option Nat} {q : Nat} {xs : List Nat} (h : ch af fi la xs) (hn : xs.Nodup) (hq : q ∉ xs) : ch (ap_af af la q) (ap_fi la fi q) (some q) (xs ++ [q]) := by
  obtain ⟨h1, h2, h3⟩ := h
  rcases List.eq_nil_or_concat xs with rfl | ⟨ys, z, rfl⟩
  · subst h1
    subst h2
    exact ⟨rfl, rfl, va_up_self _ _ _, trivial⟩
  · have hz : la = some z := by rw [h2]; simp
    subst hz
    rw [List.concat_eq_append] at *
    refine ⟨?_, by simp, ?_⟩
    · show fi = _
      rw [h1, List.append_assoc]
      exact hd_ins.symm
    · rw [List.append_assoc]
      exact lk_ins (zs := []) h3 hn hq
theorem ap_out {af : Nat → Option Nat} {fi la : Option Nat} {q a : Nat} {xs : List Nat} (h : ch af fi la xs) (ha : a ∉ xs) (hq : a ≠ q) : ap_af af la q a = af a := by
  cases la with
  | none => exact va_up_ne _ _ hq
  | some z =>
    have hz : z ∈ xs := List.mem_of_getLast? h.2.1.symm
    have hne : a ≠ z := fun e => ha (by rw [e]; exact hz)
    show va_up _ _ _ _ = _
    rw [va_up_ne _ _ hne, va_up_ne _ _ hq]
theorem ch_front {af : Nat → Option Nat} {z w q : Nat} {xs : List Nat} (h : ch af (some z) (some w) xs) (hq : q ∉ xs) : ch (va_up af q (some z)) (some q) (some w) (q :: xs) := by
  obtain ⟨h1, h2, h3⟩ := h
  have h4 := lk_front h3 hq
  rw [← h1] at h4
  refine ⟨rfl, ?_, h4⟩
  cases xs with
  | nil => cases h1
  | cons x t => rw [h2, List.getLast?_cons_cons]
theorem ch_mid {af : Nat → Option Nat} {fi la : Option Nat} {b q y : Nat} {ys zs : List Nat} (h : ch af fi la (ys ++ b :: zs)) (hy : af b = some y) (hn : (ys ++ b :: zs).Nodup) (hq : q ∉ ys ++ b :: zs) : ch (va_up (va_up af q (some y)) b (some q)) fi la ((ys ++ [b]) ++ q :: zs) := by
  obtain ⟨h1, h2, h3⟩ := h
  have h4 := lk_ins h3 hn hq
  have h5 := lk_at h3
  rw [← h5, hy] at h4
  have e : (ys ++ [b]) ++ q :: zs = ys ++ b :: q :: zs := by simp
  rw [e]
  refine ⟨by rw [h1]; exact hd_ins.symm, ?_, h4⟩
  rw [h2]
  cases zs with
  | nil => rw [hy] at h5; cases h5
  | cons x t => simp [List.getLast?_append, List.getLast?_cons_cons]
theorem mid_out {af : Nat → Option Nat} {b q y a : Nat} {xs : List Nat} (hb : b ∈ xs) (ha : a ∉ xs) (hq : a ≠ q) : va_up (va_up af q (some y)) b (some q) a = af a := by
  have hne : a ≠ b := fun e => ha (by rw [e]; exact hb)
  rw [va_up_ne _ _ hne, va_up_ne _ _ hq]
theorem pf_new {cJ : ClassId} {kd : Nat → Bool} {pi : Nat → Nat → Int32} {bd : Nat → Nat} {af : Nat → Option Nat} {bo : Nat → Nat → Int64} {q w : Nat} (h : q ≠ w) : va_up (va_up (pf cJ kd pi bd af bo) q (.inr (5, [.int 0, .int 0, .int 0, .int 0, .int 0, .ref w, va_rf none]))) w (.inl (cJ, 4, .inr (.inl (fun _ => 0)))) = pf cJ (va_up (va_up kd q false) w true) (fun k => va_up (pi k) q 0) (va_up bd q w) (va_up af q none) (va_up bo w (fun _ => 0)) := by
  funext a
  by_cases ha : a = w
  · subst ha
    simp [va_up, pf]
  · by_cases hb : a = q
    · subst hb
      simp [va_up, pf, ha]
    · simp [va_up, pf, ha, hb]
theorem pl_apart {A : Nat → Prop} {X : va_W} {L : List Nat} {f : Nat → va_E} {q w : Nat} {e1 e2 : va_E} (hD : va_D A ((X ++ va_pl L f) ++ [(q, e1), (w, e2)])) : q ∉ L ∧ (w ∉ L ∧ q ≠ w) := by
  have aux : ∀ (x : Nat) (e : va_E) (j : Nat), ([(q, e1), (w, e2)] : va_W)[j]? = some (x, e) → x ∉ L := by
    intro x e j hj m
    obtain ⟨k, hk⟩ := va_pl_get (X := X) (f := f) m
    have hkl := (List.getElem?_eq_some_iff.mp hk).1
    have a1 : ((X ++ va_pl L f) ++ [(q, e1), (w, e2)])[k]? = some (x, f x) := by rw [List.getElem?_append_left hkl]; exact hk
    have a2 : ((X ++ va_pl L f) ++ [(q, e1), (w, e2)])[(X ++ va_pl L f).length + j]? = some (x, e) := by
      rw [List.getElem?_append_right (by omega)]
      rw [show (X ++ va_pl L f).length + j - (X ++ va_pl L f).length = j by omega]
      exact hj
    have a3 := hD.1 _ _ _ _ a1 a2 rfl
    omega
  refine ⟨aux q e1 0 rfl, aux w e2 1 rfl, fun e => ?_⟩
  have a1 : ((X ++ va_pl L f) ++ [(q, e1), (w, e2)])[(X ++ va_pl L f).length + 0]? = some (q, e1) := by
    rw [List.getElem?_append_right (by omega)]
    rw [show (X ++ va_pl L f).length + 0 - (X ++ va_pl L f).length = 0 by omega]
    rfl
  have a2 : ((X ++ va_pl L f) ++ [(q, e1), (w, e2)])[(X ++ va_pl L f).length + 1]? = some (w, e2) := by
    rw [List.getElem?_append_right (by omega)]
    rw [show (X ++ va_pl L f).length + 1 - (X ++ va_pl L f).length = 1 by omega]
    rfl
  have a3 := hD.1 _ _ _ _ a1 a2 e
  omega
theorem pl_new {L : List Nat} {f : Nat → va_E} {X : va_W} {q w : Nat} {e1 e2 : va_E} (h1 : q ∉ L) (h2 : w ∉ L) (h3 : q ≠ w) : (X ++ va_pl L f) ++ [(q, e1), (w, e2)] = X ++ va_pl (L ++ [q, w]) (va_up (va_up f q e1) w e2) := by
  rw [List.append_assoc]
  congr 1
  have a1 := va_pl_push (L := L) (f := f) (e := e1) h1
  have a2 := va_pl_push (L := L ++ [q]) (f := va_up f q e1) (a := w) (e := e2) (by
    intro m
    rcases List.mem_append.mp m with m | m
    · exact h2 m
    · exact h3 (List.mem_singleton.mp m).symm)
  rw [List.append_assoc] at a2
  rw [← a1, List.append_assoc] at a2
  exact a2
/-- a contract's start that names the heap -/
abbrev pw_h (D : va_G) (cI cJ cZ cO : ClassId) (Hh : Heap) (ws : va_W) : State → Prop := fun U => U.heap = Hh ∧ va_P D vwCl ws U.heap ∧ va_K D vwCl (pw_ty cI cJ cZ cO) U ∧ va_D (fun _ => True) ws ∧ nw U
theorem pw_blindh {D : va_G} {cI cJ cZ cO : ClassId} {Hh : Heap} {ws : va_W} {av : List Value} : FrameBlind (va_Pc av (pw_h D cI cJ cZ cO Hh ws)) := fun a U g mk q => by
  obtain ⟨q0, q1, qP, qK, qD, qN⟩ := q
  exact ⟨q0, q1, qP, va_K.moved (u := U) (U := U.calling g mk a) (Vm.Alike.refl U.vm) qK, qD, nw.same (u := U) (U := U.calling g mk a) qN rfl⟩
theorem pw_starth {D : va_G} {cI cJ cZ cO : ClassId} {ws : va_W} {s U : State} {H : Heap} {A : Nat → Prop} (hU : U.heap = H) (hW : s.WarmedH U.vm) (hP : va_P D vwCl ws H) (hK : va_K D vwCl (pw_ty cI cJ cZ cO) s) (hD : va_D A ws) (hN : nw s) : pw_h D cI cJ cZ cO H ws U :=
  ⟨hU, by rw [hU]; exact hP, va_K.moved hW.alike hK, hD.weaken (fun _ _ _ _ => trivial), hN.warm hW⟩
theorem pf_ub {cJ : ClassId} {kd : Nat → Bool} {pi : Nat → Nat → Int32} {bd : Nat → Nat} {af : Nat → Option Nat} {bo : Nat → Nat → Int64} {a : Nat} {x : Nat → Int64} (h : kd a = true) : va_up (pf cJ kd pi bd af bo) a (.inl (cJ, 4, .inr (.inl x))) = pf cJ kd pi bd af (va_up bo a x) := by
  funext b
  by_cases hb : b = a
  · subst hb; simp [va_up, pf, h]
  · simp [va_up, pf, hb]

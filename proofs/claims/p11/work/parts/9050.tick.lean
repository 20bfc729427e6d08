/-! from tick to tick: how much can be on the way -/
def cn (l : List Int32) (x : Int) : Nat := l.countP (fun y => decide (x ≤ y.toInt))
def TI (w : Int32) (W A : List Int32) : Prop :=
  (0 ≤ w.toInt ∧ w.toInt ≤ 100000000) ∧ Srt W ∧ Srt A ∧ (∀ x : Int, cn W x ≤ (w.toInt + 1000 - x).toNat) ∧ W.length ≤ 1000 ∧
  (∀ x : Int, x ≤ w.toInt + 1000 → (cn A x : Int) + W.length ≤ 1001 + 9 * (w.toInt + 1000 - x)) ∧ (∀ y ∈ A, y.toInt ≤ w.toInt + 1000) ∧ W.length + A.length ≤ 10001
/-- behind moveLink -/
def TS (w : Int32) (W A : List Int32) : Prop :=
  (∀ x : Int, cn W x ≤ (w.toInt + 1001 - x).toNat) ∧ W.length ≤ 1001 ∧
  (∀ x : Int, x ≤ w.toInt + 1000 → (cn A x : Int) + W.length ≤ 1002 + 9 * (w.toInt + 1000 - x)) ∧ (∀ y ∈ A, y.toInt ≤ w.toInt + 1000) ∧ W.length + A.length ≤ 10002
theorem cn_perm {l k : List Int32} (h : l.Perm k) (x : Int) : cn l x = cn k x := h.countP_eq _
theorem cn_app (l k : List Int32) (x : Int) : cn (l ++ k) x = cn l x + cn k x := List.countP_append
theorem cn_le (l : List Int32) (x : Int) : cn l x ≤ l.length := List.countP_le_length
theorem cn_all {l : List Int32} {x : Int} (h : ∀ y ∈ l, x ≤ y.toInt) : cn l x = l.length := List.countP_eq_length.mpr (fun y hy => decide_eq_true (h y hy))
theorem cn_none {l : List Int32} {x : Int} (h : ∀ y ∈ l, ¬ x ≤ y.toInt) : cn l x = 0 := List.countP_eq_zero.mpr (fun y hy => by simp [h y hy])
theorem TI_0 : TI 0 [] [] := by
  refine ⟨by decide, List.Pairwise.nil, List.Pairwise.nil, fun x => by simp [cn], by decide, fun x hx => ?_, fun y hy => (by cases hy), by decide⟩
  have h0 : (0 : Int32).toInt = 0 := by decide
  rw [h0] at hx ⊢
  simp [cn]
  omega
theorem add_to {w v : Int32} (h0 : 0 ≤ w.toInt) (h1 : w.toInt ≤ 100000000) (h2 : 1 ≤ v) (h3 : v ≤ 1000) : (w + v).toInt = w.toInt + v.toInt ∧ 1 ≤ v.toInt ∧ v.toInt ≤ 1000 := by
  have a1 : (1 : Int32).toInt ≤ v.toInt := Int32.le_iff_toInt_le.mp h2
  have a2 : v.toInt ≤ (1000 : Int32).toInt := Int32.le_iff_toInt_le.mp h3
  rw [show (1 : Int32).toInt = 1 by decide] at a1
  rw [show (1000 : Int32).toInt = 1000 by decide] at a2
  refine ⟨?_, a1, a2⟩
  rw [Int32.toInt_add]
  apply Int.bmod_eq_of_le <;> simp at * <;> omega
theorem TS_of {L : List Nat} {kd : Nat → Bool} {tag : Nat → Nat} {xl : Nat → List Nat} {pi : Nat → Nat → Int32} {ol : Option Nat} {tag2 : Nat → Nat} {xl2 : Nat → List Nat} {pi2 : Nat → Nat → Int32} {ol2 : Option Nat} {wd : List Int32} {w v : Int32} (h : TI w (dz pi (xl 1)) (dz pi (xl 2))) (hQ : QQ L kd tag xl pi ol L kd tag2 xl2 pi2 ol2 wd [] 0 0) (hw : wd = [] ∨ wd = [w + v]) (hv : 1 ≤ v ∧ v ≤ 1000) : TS w (dz pi2 (xl2 1)) (dz pi2 (xl2 2)) := by
  obtain ⟨⟨t0, t1⟩, -, -, c1, c2, c3, c4, c5⟩ := h
  obtain ⟨-, ⟨a1, -⟩, ⟨a2, -⟩, -⟩ := hQ
  rw [List.nil_append] at a2
  obtain ⟨e1, e2, e3⟩ := add_to t0 t1 hv.1 hv.2
  have lw : wd.length ≤ 1 := by rcases hw with rfl | rfl <;> simp
  have l1 := a1.length_eq
  have l2 := a2.length_eq
  rw [List.length_append] at l1
  refine ⟨fun x => ?_, by omega, fun x hx => ?_, fun y hy => c4 y (a2.mem_iff.mp hy), by omega⟩
  · rw [cn_perm a1, cn_app]
    have b1 := c1 x
    have b2 := cn_le wd x
    by_cases hx : x ≤ w.toInt + 1000
    · omega
    · have b3 : cn wd x = 0 := cn_none (fun y hy => by
        rcases hw with rfl | rfl
        · cases hy
        · rw [List.mem_singleton.mp hy, e1]; omega)
      omega
  · rw [cn_perm a2]
    have := c3 x hx
    omega
theorem TK_start {L : List Nat} {kd : Nat → Bool} {tag : Nat → Nat} {xl : Nat → List Nat} {pi : Nat → Nat → Int32} {ol : Option Nat} {tag2 : Nat → Nat} {xl2 : Nat → List Nat} {pi2 : Nat → Nat → Int32} {ol2 : Option Nat} {wd : List Int32} {w d : Int32} {t0 b : Nat} (h : TI w (dz pi (xl 1)) (dz pi (xl 2))) (hQ : QQ L kd tag xl pi ol L kd tag2 xl2 pi2 ol2 wd [] 0 0) (h0 : (xl 0).length ≤ 100) (ht : tot xl ol = t0 + b) (h1 : tot xl ol ≤ 12000) : TK (dz pi2 (xl2 1)) (dz pi2 (xl2 2)) t0 w d 0 False False xl2 pi2 ol2 b := by
  obtain ⟨-, s1, s2, -⟩ := h
  obtain ⟨-, ⟨a1, b1⟩, ⟨a2, b2⟩, a4, a5⟩ := hQ
  exact ⟨⟨[], [], 0, List.Perm.refl _, List.Perm.refl _, Nat.le_refl _⟩, b1 s1, b2 s2, by omega, by omega, (a5 h0).1, fun q => q.elim, fun q => q.elim⟩
theorem TK_end {W0 A0 : List Int32} {t0 : Nat} {w d v r : Int32} {xl : Nat → List Nat} {pi : Nat → Nat → Int32} {ol : Option Nat} {b : Nat} (hs : TS w W0 A0) (h : TK W0 A0 t0 w d 8 True True xl pi ol b) (hd : w + v = d) (hv : 1 ≤ v ∧ v ≤ 1000) (h0 : 0 ≤ w.toInt) (h1 : w.toInt ≤ 100000000) (hr : w.toInt + 1 ≤ r.toInt) (hr2 : r.toInt ≤ 100000000) : TI r (dz pi (xl 1)) (dz pi (xl 2)) := by
  obtain ⟨c1, c2, c3, c4, c5⟩ := hs
  obtain ⟨⟨dn, dm, j, p1, p2, p3⟩, s1, s2, -, -, -, g1, g2⟩ := h
  obtain ⟨e1, e2, e3⟩ := add_to h0 h1 hv.1 hv.2
  rw [hd] at e1
  have gt : ∀ {l : List Int32}, (∀ x ∈ l, w < x) → cn l (w.toInt + 1) = l.length := fun {l} hl => cn_all (fun y hy => by
    have := Int32.lt_iff_toInt_lt.mp (hl y hy)
    omega)
  have k1 := gt (g1 trivial)
  have k2 := gt (g2 trivial)
  have l1 := p1.length_eq
  rw [List.length_append] at l1
  have m1 : ∀ x, cn (dz pi (xl 1)) x ≤ cn W0 x := fun x => by
    rw [cn_perm p1, cn_app]
    omega
  have m2 : ∀ x, cn (dz pi (xl 2)) x ≤ j + cn A0 x := fun x => by
    have q1 := cn_perm p2 x
    rw [cn_app, cn_app] at q1
    have q2 := cn_le (List.replicate j d) x
    rw [List.length_replicate] at q2
    omega
  have lw : (dz pi (xl 1)).length ≤ 1000 := by
    rw [← k1]
    have := m1 (w.toInt + 1)
    have := c1 (w.toInt + 1)
    omega
  have up : ∀ y ∈ dz pi (xl 2), y.toInt ≤ w.toInt + 1000 := fun y hy => by
    rcases List.mem_append.mp (p2.mem_iff.mpr (List.mem_append_right _ hy)) with q | q
    · rw [(List.mem_replicate.mp q).2, e1]; omega
    · exact c4 y q
  have key : ∀ x : Int, x ≤ w.toInt + 1000 → (cn (dz pi (xl 2)) x : Int) + (dz pi (xl 1)).length ≤ 1001 + 9 * (w.toInt + 1001 - x) := fun x hx => by
    have q1 := m2 x
    have q2 := c3 x hx
    omega
  refine ⟨⟨by omega, hr2⟩, s1, s2, fun x => ?_, lw, fun x hx => ?_, fun y hy => ?_, ?_⟩
  · have := m1 x
    have := c1 x
    omega
  · by_cases q : x ≤ w.toInt + 1000
    · have := key x q
      omega
    · have z : cn (dz pi (xl 2)) x = 0 := cn_none (fun y hy => by have := up y hy; omega)
      omega
  · have := up y hy
    omega
  · have := key (w.toInt + 1) (by omega)
    omega
theorem wd_lt {w v d : Int32} (h0 : 0 ≤ w.toInt) (h1 : w.toInt ≤ 100000000) (hd : w + v = d) (hv : 1 ≤ v ∧ v ≤ 1000) : w < d := by
  obtain ⟨e1, e2, e3⟩ := add_to h0 h1 hv.1 hv.2
  rw [hd] at e1
  exact Int32.lt_iff_toInt_lt.mpr (by omega)
theorem run_end {nw n1 x en : Int32} (h0 : 0 ≤ nw.toInt) (h1 : nw.toInt ≤ 100000000) (hw : ¬ wi n1 1 20000 = 0) (hx : x = 100000000 - n1) (hl : nw ≤ x) (he : en = nw + n1) : en.toInt ≤ 100000000 := by
  obtain ⟨j, hj1, hj2, e⟩ := wi_run hw
  have e1 : n1.toInt = j := by rw [e]; exact nI_toInt (by omega)
  have e2 : x.toInt = 100000000 - j := by
    rw [hx, Int32.toInt_sub, e1, show (100000000 : Int32).toInt = 100000000 by decide]
    apply Int.bmod_eq_of_le <;> simp at * <;> omega
  have e3 := Int32.le_iff_toInt_le.mp hl
  have e4 : en.toInt = nw.toInt + j := by
    rw [he, Int32.toInt_add, e1]
    apply Int.bmod_eq_of_le <;> simp at * <;> omega
  omega
theorem mn_le {x a b : Int32} (e : x = if b < a then b else a) : x ≤ a := by
  rw [e]
  by_cases h : b < a
  · rw [if_pos h]; exact Int32.le_of_lt h
  · rw [if_neg h]; exact Int32.le_refl _
theorem nb_end {nw en x y r : Int32} (h0 : 0 ≤ nw.toInt) (h1 : nw.toInt < en.toInt) (h2 : en.toInt ≤ 100000000) (hy : y ≤ en) (ex : x = nw + 1) (er : r = if x < y then y else x) : nw.toInt + 1 ≤ r.toInt ∧ r.toInt ≤ en.toInt := by
  have e1 : x.toInt = nw.toInt + 1 := by
    rw [ex, Int32.toInt_add, show (1 : Int32).toInt = 1 by decide]
    apply Int.bmod_eq_of_le <;> simp at * <;> omega
  have e2 := Int32.le_iff_toInt_le.mp hy
  by_cases h : x < y
  · rw [if_pos h] at er
    have := Int32.lt_iff_toInt_lt.mp h
    rw [er]
    omega
  · rw [if_neg h] at er
    rw [er]
    omega

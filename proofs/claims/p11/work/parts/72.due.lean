theorem up_at {g : Nat → Int32} {i : Int32} {v : Int32} (h0 : 0 ≤ i.toInt) (k : Nat) : upd g i.toNatClampNeg v k = if (k : Int) = i.toInt then v else g k := by
  have c := cl_toInt h0
  show (if k = i.toNatClampNeg then v else g k) = _
  by_cases e : k = i.toNatClampNeg
  · rw [if_pos e, if_pos (by omega)]
  · rw [if_neg e, if_neg (by omega)]
theorem dw_len {ph : Nat} {t f e m : Int32} {at_ : Nat → Int32} (h : DW ph t f e m at_) (h0 : 0 ≤ f.toInt) : e.toInt - f.toInt ≤ 1001 + ph := by
  rcases Int.lt_or_le f.toInt e.toInt with w | w
  · have c := cl_toInt h0
    have a := h.2.1 f.toNatClampNeg (by omega) (by omega)
    omega
  · omega
/-- a segment leaves the link -/
theorem dw_add {t f e m m2 e2 d w : Int32} {at_ : Nat → Int32} (h : DW 0 t f e m at_) (h0 : 0 ≤ f.toInt) (hw : 1 ≤ w.toInt ∧ w.toInt ≤ 1000) (hd : d.toInt = t.toInt + w.toInt) (he : e2.toInt = e.toInt + 1) (hm : m2 = 0 → f.toInt < e.toInt → m = 0 ∧ ∀ k : Nat, (k : Int) = e.toInt - 1 → (at_ k).toInt ≤ d.toInt) : DW 1 t f e2 m2 (upd at_ e.toNatClampNeg d) := by
  obtain ⟨a, b, c⟩ := h
  have q := fun k => up_at (g := at_) (i := e) (v := d) (by omega) k
  refine ⟨by omega, fun k h1 h2 => ?_, fun hz j k h1 h2 h3 => ?_⟩
  · rw [q k]
    by_cases w1 : (k : Int) = e.toInt
    · rw [if_pos w1]; omega
    · rw [if_neg w1]
      have := b k h1 (by omega)
      omega
  · rw [q j, q k]
    by_cases w1 : (k : Int) = e.toInt
    · rw [if_pos w1]
      by_cases w2 : (j : Int) = e.toInt
      · rw [if_pos w2]; omega
      · rw [if_neg w2]
        obtain ⟨g1, g2⟩ := hm hz (by omega)
        obtain ⟨l, hl⟩ : ∃ l : Nat, (l : Int) = e.toInt - 1 := ⟨(e.toInt - 1).toNat, by omega⟩
        have g3 := c g1 j l h1 (by omega) (by omega)
        have g4 := g2 l hl
        omega
    · rw [if_neg w1, if_neg (by omega)]
      exact c (hm hz (by omega)).1 j k h1 h2 (by omega)
theorem da_ph {cl : Int} {t wf we we2 f e m : Int32} {at_ ow ch : Nat → Int32} (h : DA 0 cl t wf we f e m at_ ow ch) (hw : we2.toInt = we.toInt + 1) : DA 1 cl t wf we2 f e m at_ ow ch := by
  obtain ⟨a, b, c⟩ := h
  refine ⟨a, fun k h1 h2 => ?_, c⟩
  have := b k h1 h2
  omega
theorem dw_ph {t f e m : Int32} {at_ : Nat → Int32} (h : DW 0 t f e m at_) : DW 1 t f e m at_ := by
  obtain ⟨a, b, c⟩ := h
  refine ⟨a, fun k h1 h2 => ?_, c⟩
  have := b k h1 h2
  omega
theorem da_ph0 {cl : Int} {t wf we f e m : Int32} {at_ ow ch : Nat → Int32} (h : DA 0 cl t wf we f e m at_ ow ch) : DA 1 cl t wf we f e m at_ ow ch := by
  obtain ⟨a, b, c⟩ := h
  refine ⟨a, fun k h1 h2 => ?_, c⟩
  have := b k h1 h2
  omega
/-- the first on the way is taken: a unit more -/
theorem dw_first {ph : Nat} {t f f2 e m : Int32} {at_ : Nat → Int32} (h : DW ph t f e m at_) (hf : f.toInt < e.toInt) (h2 : f2.toInt = f.toInt + 1) : DW ph t f2 e m at_ :=
  ⟨by omega, fun k h1 h3 => h.2.1 k (by omega) h3, fun hz j k h1 h3 h4 => h.2.2 hz j k (by omega) h3 h4⟩
theorem da_wf {ph : Nat} {cl : Int} {t wf wf2 we f e m : Int32} {at_ ow ch : Nat → Int32} (h : DA ph cl t wf we f e m at_ ow ch) (hw : wf2.toInt = wf.toInt + 1) : DA ph (cl + 1) t wf2 we f e m at_ ow ch := by
  obtain ⟨a, b, c⟩ := h
  refine ⟨a, fun k h1 h2 => ?_, c⟩
  have := b k h1 h2
  omega
theorem da_first {ph : Nat} {cl : Int} {t wf we f f2 e m : Int32} {at_ ow ch : Nat → Int32} (h : DA ph cl t wf we f e m at_ ow ch) (hf : f.toInt < e.toInt) (h2 : f2.toInt = f.toInt + 1) : DA ph cl t wf we f2 e m at_ ow ch :=
  ⟨by omega, fun k h1 h3 => h.2.1 k (by omega) h3, fun hz j k h1 h3 h4 => h.2.2 hz j k (by omega) h3 h4⟩
/-- not mixed, the first not due now: none is -/
theorem dw_done {ph : Nat} {t f e : Int32} {m : Int32} {at_ : Nat → Int32} (h : DW ph t f e m at_) (hm : m = 0) (h0 : 0 ≤ f.toInt) (hn : f.toInt < e.toInt → ¬ (at_ f.toNatClampNeg).toInt = t.toInt) : ∀ k : Nat, f.toInt ≤ k → (k : Int) < e.toInt → t.toInt < (at_ k).toInt := by
  intro k h1 h2
  have c := cl_toInt h0
  have a := h.2.1 f.toNatClampNeg (by omega) (by omega)
  have b := h.2.2 hm f.toNatClampNeg k (by omega) (by omega) h2
  have d := hn (by omega)
  omega
theorem da_done {ph : Nat} {cl : Int} {t wf we f e : Int32} {m : Int32} {at_ ow ch : Nat → Int32} (h : DA ph cl t wf we f e m at_ ow ch) (hm : m = 0) (h0 : 0 ≤ f.toInt) (hn : f.toInt < e.toInt → ¬ (at_ f.toNatClampNeg).toInt = t.toInt) : ∀ k : Nat, f.toInt ≤ k → (k : Int) < e.toInt → t.toInt < (at_ k).toInt := by
  intro k h1 h2
  have c := cl_toInt h0
  have a := h.2.1 f.toNatClampNeg (by omega) (by omega)
  have b := h.2.2 hm f.toNatClampNeg k (by omega) (by omega) h2
  have d := hn (by omega)
  omega
/-- the next tick -/
theorem dw_tick {t t2 f e m : Int32} {at_ : Nat → Int32} (h : DW 1 t f e m at_) (ht : t2.toInt = t.toInt + 1) (hn : ∀ k : Nat, f.toInt ≤ k → (k : Int) < e.toInt → t.toInt < (at_ k).toInt) : DW 0 t2 f e m at_ := by
  obtain ⟨a, b, c⟩ := h
  refine ⟨a, fun k h1 h2 => ?_, c⟩
  have := b k h1 h2
  have := hn k h1 h2
  omega
theorem da_tick {cl : Int} {t t2 wf we f e m : Int32} {at_ ow ch : Nat → Int32} (h : DA 1 cl t wf we f e m at_ ow ch) (ht : t2.toInt = t.toInt + 1) (hn : ∀ k : Nat, f.toInt ≤ k → (k : Int) < e.toInt → t.toInt < (at_ k).toInt) : DA 0 cl t2 wf we f e m at_ ow ch := by
  obtain ⟨a, b, c⟩ := h
  refine ⟨a, fun k h1 h2 => ?_, c⟩
  have := b k h1 h2
  have := hn k h1 h2
  omega
theorem owc_le (g : Nat → Int32) : 0 ≤ owc g ∧ owc g ≤ 4 := by
  have a0 := ow1_le (g 0)
  have a1 := ow1_le (g 1)
  have a2 := ow1_le (g 2)
  have a3 := ow1_le (g 3)
  unfold owc
  omega
theorem chc_le (g : Nat → Int32) : 0 ≤ chc g ∧ chc g ≤ 4 := by
  have a0 := ch1_le (g 0)
  have a1 := ch1_le (g 1)
  have a2 := ch1_le (g 2)
  have a3 := ch1_le (g 3)
  unfold chc
  omega
/-- an ack is sent: a unit less -/
theorem da_add {ph : Nat} {cl : Int} {t wf we f e m m2 e2 d w : Int32} {at_ ow ch : Nat → Int32} (h : DA ph (cl + 1) t wf we f e m at_ ow ch) (h0 : 0 ≤ f.toInt) (hw : 1 ≤ w.toInt ∧ w.toInt ≤ 1000) (hd : d.toInt = t.toInt + w.toInt) (he : e2.toInt = e.toInt + 1) (hE : we.toInt - wf.toInt ≤ 1002) (hcl : cl ≤ 512) (hm : m2 = 0 → f.toInt < e.toInt → m = 0 ∧ ∀ k : Nat, (k : Int) = e.toInt - 1 → (at_ k).toInt ≤ d.toInt) : DA ph cl t wf we f e2 m2 (upd at_ e.toNatClampNeg d) ow ch := by
  obtain ⟨a, b, c⟩ := h
  have o1 := owc_le ow
  have o2 := chc_le ch
  have q := fun k => up_at (g := at_) (i := e) (v := d) (by omega) k
  refine ⟨by omega, fun k h1 h2 => ?_, fun hz j k h1 h2 h3 => ?_⟩
  · rw [q k]
    by_cases w1 : (k : Int) = e.toInt
    · rw [if_pos w1]; omega
    · rw [if_neg w1]
      have := b k h1 (by omega)
      omega
  · rw [q j, q k]
    by_cases w1 : (k : Int) = e.toInt
    · rw [if_pos w1]
      by_cases w2 : (j : Int) = e.toInt
      · rw [if_pos w2]; omega
      · rw [if_neg w2]
        obtain ⟨g1, g2⟩ := hm hz (by omega)
        obtain ⟨l, hl⟩ : ∃ l : Nat, (l : Int) = e.toInt - 1 := ⟨(e.toInt - 1).toNat, by omega⟩
        have g3 := c g1 j l h1 (by omega) (by omega)
        have g4 := g2 l hl
        omega
    · rw [if_neg w1, if_neg (by omega)]
      exact c (hm hz (by omega)).1 j k h1 h2 (by omega)
theorem da_len {ph : Nat} {cl : Int} {t wf we f e m : Int32} {at_ ow ch : Nat → Int32} (h : DA ph cl t wf we f e m at_ ow ch) (h0 : 0 ≤ f.toInt) (hp : ph ≤ 1) (hE : 0 ≤ we.toInt - wf.toInt) (hcl : -1100 ≤ cl) : e.toInt - f.toInt ≤ 3700 := by
  have o1 := owc_le ow
  have o2 := chc_le ch
  rcases Int.lt_or_le f.toInt e.toInt with w | w
  · have c := cl_toInt h0
    have a := h.2.1 f.toNatClampNeg (by omega) (by omega)
    omega
  · omega
theorem owc_none {g : Nat → Int32} {i : Nat} : owc (upd g i (-1)) ≤ owc g := by
  have e : ∀ j, upd g i (-1) j = if j = i then -1 else g j := fun _ => rfl
  have z : ow1 (-1) = 0 := by decide
  unfold owc
  rw [e 0, e 1, e 2, e 3]
  have a0 := ow1_le (g 0)
  have a1 := ow1_le (g 1)
  have a2 := ow1_le (g 2)
  have a3 := ow1_le (g 3)
  split <;> split <;> split <;> split <;> (try rw [z]) <;> omega

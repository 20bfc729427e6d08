/-- the link with its queue, class (go, gq) against the reference's row -/
def LQ (go : Option S4) (gq : List S3) (mi : Nat → Int32) (ma : Nat → Nat → Int32) : Prop :=
  (go = none → mi 6 = 0 ∧ gq = []) ∧ (∀ c, go = some c → mi 6 = nI (gq.length + 1) ∧ c = (mi 5, ma 7 0, ma 8 0, ma 9 0)) ∧ ∀ k e, gq[k]? = some e → e = (ma 7 (k + 1), ma 8 (k + 1), ma 9 (k + 1))
def RQ (ov tf : Nat → Int32) (go : Option S4) (gq : List S3) (mi : Nat → Int32) (ma : Nat → Nat → Int32) : Prop :=
  (ov 0 = mi 0 ∧ ov 1 = mi 1 ∧ ov 2 = mi 2 ∧ ov 3 = mi 3) ∧ (ov 10 = mi 30 ∧ ov 11 = mi 26 ∧ ov 12 = mi 27 ∧ ov 13 = mi 28 ∧ ov 14 = mi 29) ∧ (∀ i, i < 64 → tf i = ma 31 i) ∧ LQ go gq mi ma
/-- what puts does with one that is not told -/
def p_end (f g pb : Int32) (mi : Nat → Int32) (ma : Nat → Nat → Int32) : XT := if mi 6 ≤ mi 1 then (upd (if mi 6 = 0 then upd mi 5 (mi 4 + mi 0) else mi) 6 (mi 6 + 1), va_up (va_up (va_up ma 7 (upd (ma 7) (mi 6).toNatClampNeg f)) 8 (upd (ma 8) (mi 6).toNatClampNeg g)) 9 (upd (ma 9) (mi 6).toNatClampNeg (vp_nar .boolean pb)), 0) else (upd mi 27 (mi 27 + 1), ma, 0)
/-- and with one that is told, at place i -/
def p_fnd (i : Int32) (mi : Nat → Int32) (ma : Nat → Nat → Int32) : XT := (upd (upd mi 30 (mi 30 - 1)) 28 (mi 28 + 1), va_up ma 31 (upd (ma 31) i.toNatClampNeg (ma 31 (mi 30 - 1).toNatClampNeg)), 0)
theorem puts_step {f g pb n i : Int32} {fu : Nat} {mi : Nat → Int32} {ma : Nat → Nat → Int32} : x_puts_19 f g pb (fu + 1) mi ma n i = if mi 30 ≤ i then p_end f g pb mi ma else if ma 31 i.toNatClampNeg = n then p_fnd i mi ma else x_puts_19 f g pb fu mi ma n (i + 1) := by
  rw [x_puts_19]
  unfold p_end p_fnd
  simp (decide := true) only [bd, upd_a, upd_b, va_up_ne, ne_eq, not_false_eq_true]
  by_cases h1 : mi 30 ≤ i
  · simp only [if_pos h1]
    by_cases h2 : mi 6 ≤ mi 1
    · simp only [if_pos h2]
      by_cases h3 : mi 6 = 0
      · simp only [if_pos h3]
      · simp only [if_neg h3]
    · simp only [if_neg h2]
  · simp only [if_neg h1]
theorem place_step {ov tf : Nat → Int32} {n i : Int32} {fu : Nat} : xc_place_2 ov tf n (fu + 1) n i = if ov 10 ≤ i then -1 else if 64 ≤ i then -1 else if tf i.toNatClampNeg = n then i else xc_place_2 ov tf n fu n (i + 1) := by
  rw [xc_place_2]
  simp only [bd]
/-- scanning the told ones: the same place -/
theorem puts_place {f g pb n : Int32} {mi ov tf : Nat → Int32} {ma : Nat → Nat → Int32} (h10 : ov 10 = mi 30) (ht : ∀ i, i < 64 → tf i = ma 31 i) (hle : (mi 30).toInt ≤ 64) : ∀ (fu j : Nat), (mi 30).toInt < (j : Int) + fu → (j : Int) ≤ (mi 30).toInt → x_puts_19 f g pb fu mi ma n (nI j) = (if xc_place_2 ov tf n fu n (nI j) = -1 then p_end f g pb mi ma else p_fnd (xc_place_2 ov tf n fu n (nI j)) mi ma) ∧ (xc_place_2 ov tf n fu n (nI j) = -1 ∨ ∃ i : Nat, i < 64 ∧ (i : Int) < (mi 30).toInt ∧ xc_place_2 ov tf n fu n (nI j) = nI i)
  | 0, j, h, hj => by
    exfalso
    omega
  | fu + 1, j, h, hj => by
    rw [puts_step, place_step, h10]
    have ej : (nI j).toInt = j := nI_toInt (by omega)
    by_cases h1 : mi 30 ≤ nI j
    · rw [if_pos h1, if_pos h1, if_pos rfl]
      exact ⟨rfl, Or.inl rfl⟩
    · have h1' : (j : Int) < (mi 30).toInt := by
        have := Int32.lt_iff_toInt_lt.mp (Int32.not_le.mp h1)
        rw [ej] at this
        exact this
      have h64 : ¬ (64 : Int32) ≤ nI j := by
        intro w
        have := Int32.le_iff_toInt_le.mp w
        rw [ej, show (64 : Int32).toInt = 64 by decide] at this
        omega
      have hjn : j < 64 := by omega
      rw [if_neg h1, if_neg h1, if_neg h64, nI_clamp (show j < 2 ^ 31 by omega), ht j hjn]
      by_cases h2 : ma 31 j = n
      · rw [if_pos h2, if_pos h2]
        have hne : ¬ nI j = -1 := by
          intro w
          have := congrArg Int32.toInt w
          rw [ej, show (-1 : Int32).toInt = -1 by decide] at this
          omega
        rw [if_neg hne]
        exact ⟨rfl, Or.inr ⟨j, hjn, h1', rfl⟩⟩
      · rw [if_neg h2, if_neg h2, nI_1]
        exact puts_place h10 ht hle fu (j + 1) (by omega) (by omega)
theorem x_puts_eq0 {f g pb : Int32} {mi : Nat → Int32} {ma : Nat → Nat → Int32} {n : Nat} : (bd (mi 26) (fun v35 => bd (mi 26) (fun v36 => bd (v36 + (1 : Int32)) (fun v37 => bd (upd mi 26 v37) (fun m38 => x_puts_19 f g pb n m38 ma v35 (0 : Int32)))))) = x_puts_19 f g pb n (upd mi 26 (mi 26 + 1)) ma (mi 26) 0 := rfl
theorem x_puts_eq {f g pb : Int32} {mi : Nat → Int32} {ma : Nat → Nat → Int32} : x_puts f g pb mi ma = x_puts_19 f g pb 65 (upd mi 26 (mi 26 + 1)) ma (mi 26) 0 := by
  unfold x_puts
  exact x_puts_eq0
/-- the told ones, when one is forgotten -/
theorem told_forget {tf : Nat → Int32} {m : Nat → Int32} {i j : Nat} (hi : i < 64) (hj : j < 64) (ht : ∀ k, k < 64 → tf k = m k) : ∀ k, k < 64 → upd tf i (tf j) k = upd m i (m j) k := by
  intro k hk
  by_cases e : k = i
  · rw [e, upd_a, upd_a, ht j hj]
  · rw [upd_b e, upd_b e, ht k hk]
theorem xc_forget_eq {ov tf : Nat → Int32} {i t : Nat} (hi : (i : Int) < t) (ht : t ≤ 64) (e : ov 10 = nI t) : xc_forget ov tf (nI i) = (upd ov 10 (nI (t - 1)), upd tf i (tf (t - 1))) := by
  have ei : (nI i).toInt = i := nI_toInt (by omega)
  have et : (nI t).toInt = t := nI_toInt (by omega)
  unfold xc_forget
  simp only [bd]
  have h0 : ¬ nI i < 0 := by
    intro w
    have := Int32.lt_iff_toInt_lt.mp w
    rw [ei, show (0 : Int32).toInt = 0 by decide] at this
    omega
  have h1 : ¬ ov 10 ≤ nI i := by
    intro w
    have := Int32.le_iff_toInt_le.mp w
    rw [e, ei, et] at this
    omega
  have h2 : ¬ (64 : Int32) < ov 10 := by
    intro w
    have := Int32.lt_iff_toInt_lt.mp w
    rw [e, et, show (64 : Int32).toInt = 64 by decide] at this
    omega
  have e1 : ov 10 - 1 = nI (t - 1) := by
    rw [e]
    obtain ⟨k, hk⟩ : ∃ k, t = k + 1 := ⟨t - 1, by omega⟩
    rw [hk, nI_pred]
    rfl
  rw [if_neg h0, if_neg h1, if_neg h2, e1]
  simp only [upd_a]
  rw [nI_clamp (show t - 1 < 2 ^ 31 by omega), nI_clamp (show i < 2 ^ 31 by omega)]

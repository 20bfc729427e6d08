theorem clamp_rg {t : Int32} {c : Int32} (h : c = (if (200 : Int32) ≤ t then (if t ≤ 60000 then t else 60000) else 200)) : 0 ≤ c.toInt ∧ c.toInt ≤ 60000 := by
  have e1 : (200 : Int32).toInt = 200 := by decide
  have e2 : (60000 : Int32).toInt = 60000 := by decide
  rw [h]
  by_cases c1 : (200 : Int32) ≤ t
  · rw [if_pos c1]
    have := Int32.le_iff_toInt_le.mp c1
    by_cases c2 : t ≤ 60000
    · rw [if_pos c2]
      have := Int32.le_iff_toInt_le.mp c2
      omega
    · rw [if_neg c2]
      omega
  · rw [if_neg c1]
    omega
/-- a round is measured -/
theorem meas_eq {a : Int32} {mi u : Nat → Int32} : (v_measures a mi u).1 = if u 69 = -1 then u else if u 69 < a then (if u 52 = 0 then upd (upd (upd (upd (upd u 69 (-1)) 52 1) 50 (8 * (mi 4 - u 70))) 51 (2 * (mi 4 - u 70))) 49 (if (200 : Int32) ≤ 8 * (mi 4 - u 70) / 8 + max1 (2 * (mi 4 - u 70)) then (if 8 * (mi 4 - u 70) / 8 + max1 (2 * (mi 4 - u 70)) ≤ 60000 then 8 * (mi 4 - u 70) / 8 + max1 (2 * (mi 4 - u 70)) else 60000) else 200) else upd (upd (upd (upd u 69 (-1)) 51 (u 51 - u 51 / 4 + (if (0 : Int32) ≤ u 50 / 8 - (mi 4 - u 70) then u 50 / 8 - (mi 4 - u 70) else -(u 50 / 8 - (mi 4 - u 70))))) 50 (u 50 - u 50 / 8 + (mi 4 - u 70))) 49 (if (200 : Int32) ≤ (u 50 - u 50 / 8 + (mi 4 - u 70)) / 8 + max1 (u 51 - u 51 / 4 + (if (0 : Int32) ≤ u 50 / 8 - (mi 4 - u 70) then u 50 / 8 - (mi 4 - u 70) else -(u 50 / 8 - (mi 4 - u 70)))) then (if (u 50 - u 50 / 8 + (mi 4 - u 70)) / 8 + max1 (u 51 - u 51 / 4 + (if (0 : Int32) ≤ u 50 / 8 - (mi 4 - u 70) then u 50 / 8 - (mi 4 - u 70) else -(u 50 / 8 - (mi 4 - u 70)))) ≤ 60000 then (u 50 - u 50 / 8 + (mi 4 - u 70)) / 8 + max1 (u 51 - u 51 / 4 + (if (0 : Int32) ≤ u 50 / 8 - (mi 4 - u 70) then u 50 / 8 - (mi 4 - u 70) else -(u 50 / 8 - (mi 4 - u 70)))) else 60000) else 200)) else u := by
  unfold v_measures max1
  simp only [bd_eq]
  simp (decide := true) only [upd_a, upd_b, ne_eq, not_false_eq_true]
  by_cases h1 : u 69 = -1
  · rw [if_pos h1, if_pos h1]
  · rw [if_neg h1, if_neg h1]
    by_cases h2 : u 69 < a
    · rw [if_pos h2, if_pos h2]
      generalize mi 4 - u 70 = r
      by_cases h3 : u 52 = 0
      · rw [if_pos h3, if_pos h3]
        generalize 8 * r / 8 = x
        by_cases h4 : 2 * r ≤ 1
        · simp only [if_pos h4]
          by_cases h5 : (200 : Int32) ≤ x + 1
          · simp only [if_pos h5]
            by_cases h6 : x + 1 ≤ 60000
            · simp only [if_pos h6]
              rfl
            · simp only [if_neg h6]
              rfl
          · simp only [if_neg h5]
            rfl
        · simp only [if_neg h4]
          by_cases h5 : (200 : Int32) ≤ x + 2 * r
          · simp only [if_pos h5]
            by_cases h6 : x + 2 * r ≤ 60000
            · simp only [if_pos h6]
              rfl
            · simp only [if_neg h6]
              rfl
          · simp only [if_neg h5]
            rfl
      · rw [if_neg h3, if_neg h3]
        by_cases h7 : (0 : Int32) ≤ u 50 / 8 - r
        · simp only [if_pos h7]
          generalize u 51 - u 51 / 4 + (u 50 / 8 - r) = v
          generalize (u 50 - u 50 / 8 + r) / 8 = x
          by_cases h4 : v ≤ 1
          · simp only [if_pos h4]
            by_cases h5 : (200 : Int32) ≤ x + 1
            · simp only [if_pos h5]
              by_cases h6 : x + 1 ≤ 60000
              · simp only [if_pos h6]
              · simp only [if_neg h6]
            · simp only [if_neg h5]
          · simp only [if_neg h4]
            by_cases h5 : (200 : Int32) ≤ x + v
            · simp only [if_pos h5]
              by_cases h6 : x + v ≤ 60000
              · simp only [if_pos h6]
              · simp only [if_neg h6]
            · simp only [if_neg h5]
        · simp only [if_neg h7]
          generalize u 51 - u 51 / 4 + -(u 50 / 8 - r) = v
          generalize (u 50 - u 50 / 8 + r) / 8 = x
          by_cases h4 : v ≤ 1
          · simp only [if_pos h4]
            by_cases h5 : (200 : Int32) ≤ x + 1
            · simp only [if_pos h5]
              by_cases h6 : x + 1 ≤ 60000
              · simp only [if_pos h6]
              · simp only [if_neg h6]
            · simp only [if_neg h5]
          · simp only [if_neg h4]
            by_cases h5 : (200 : Int32) ≤ x + v
            · simp only [if_pos h5]
              by_cases h6 : x + v ≤ 60000
              · simp only [if_pos h6]
              · simp only [if_neg h6]
            · simp only [if_neg h5]
    · rw [if_neg h2, if_neg h2]
theorem meas_SI {T : Int} {t a : Int32} {mi u : Nat → Int32} (h : SI T t u) (ht : t = mi 4) (hT : T = t.toInt) (t2 : t.toInt ≤ 100000000) : UF [69, 52, 50, 51, 49] u (v_measures a mi u).1 ∧ (0 ≤ ((v_measures a mi u).1 50).toInt ∧ ((v_measures a mi u).1 50).toInt ≤ 800000000) ∧ ((v_measures a mi u).1 52 = 0 ↔ (v_measures a mi u).1 50 = 0) ∧ ((v_measures a mi u).1 69 = -1 ∨ (0 ≤ (u 70).toInt ∧ (u 70).toInt < T)) ∧ (0 ≤ ((v_measures a mi u).1 49).toInt ∧ ((v_measures a mi u).1 49).toInt ≤ 60000) := by
  obtain ⟨i1, i2, i3, i4, i5, i6, i7, i8⟩ := h
  rw [meas_eq]
  by_cases h1 : u 69 = -1
  · rw [if_pos h1]
    exact ⟨UF_refl, i1, i2, i3, i6⟩
  · rw [if_neg h1]
    have ms := i3.resolve_left h1
    by_cases h2 : u 69 < a
    · rw [if_pos h2]
      have er : (mi 4 - u 70).toInt = t.toInt - (u 70).toInt := by rw [ti_sub (x := mi 4 - u 70) rfl (by rw [← ht]; omega) (by rw [← ht]; omega), ← ht]
      by_cases h3 : u 52 = 0
      · rw [if_pos h3]
        have e8 : (8 * (mi 4 - u 70)).toInt = 8 * (t.toInt - (u 70).toInt) := by rw [ti_mulc (x := 8 * (mi 4 - u 70)) (c := 8) (k := 8) rfl (by decide) (by omega) (by omega), er]
        refine ⟨UF_upd (UF_upd (UF_upd (UF_upd (UF_upd UF_refl (by decide)) (by decide)) (by decide)) (by decide)) (by decide), ?_, ?_, ?_, ?_⟩
        · simp (decide := true) only [upd_a, upd_b, ne_eq, not_false_eq_true]
          omega
        · simp (decide := true) only [upd_a, upd_b, ne_eq, not_false_eq_true]
          refine ⟨fun w => by first | exact absurd w (by decide) | exact w.elim, fun w => ?_⟩
          exfalso
          have := congrArg Int32.toInt w
          rw [e8, show (0 : Int32).toInt = 0 by decide] at this
          omega
        · simp (decide := true) only [upd_a, upd_b, ne_eq, not_false_eq_true]
          exact Or.inl (by trivial)
        · rw [upd_a]
          exact clamp_rg rfl
      · rw [if_neg h3]
        have n50 : ¬ u 50 = 0 := fun w => h3 (i2.mpr w)
        have p50 : 1 ≤ (u 50).toInt := by
          rcases Int.lt_or_le 0 (u 50).toInt with w | w
          · omega
          · exact absurd (Int32.toInt_inj.mp (by rw [show (0 : Int32).toInt = 0 by decide]; omega)) n50
        have e1 : (u 50 / 8).toInt = (u 50).toInt / 8 := ti_divc (x := u 50 / 8) (k := 8) rfl (by decide) (by decide) (by omega)
        have e2 : (u 50 - u 50 / 8).toInt = (u 50).toInt - (u 50).toInt / 8 := by rw [ti_sub (x := u 50 - u 50 / 8) rfl (by omega) (by omega), e1]
        have e3 : (u 50 - u 50 / 8 + (mi 4 - u 70)).toInt = (u 50).toInt - (u 50).toInt / 8 + (t.toInt - (u 70).toInt) := by rw [ti_add (x := u 50 - u 50 / 8 + (mi 4 - u 70)) rfl (by omega) (by omega), e2, er]
        refine ⟨UF_upd (UF_upd (UF_upd (UF_upd UF_refl (by decide)) (by decide)) (by decide)) (by decide), ?_, ?_, ?_, ?_⟩
        · simp (decide := true) only [upd_a, upd_b, ne_eq, not_false_eq_true]
          omega
        · simp (decide := true) only [upd_a, upd_b, ne_eq, not_false_eq_true]
          refine ⟨fun w => absurd w h3, fun w => ?_⟩
          exfalso
          have := congrArg Int32.toInt w
          rw [e3, show (0 : Int32).toInt = 0 by decide] at this
          omega
        · simp (decide := true) only [upd_a, upd_b, ne_eq, not_false_eq_true]
          exact Or.inl (by trivial)
        · rw [upd_a]
          exact clamp_rg rfl
    · rw [if_neg h2]
      exact ⟨UF_refl, i1, i2, i3, i6⟩

theorem clamp_eq (t : Int32) : (if (if (200 : Int32) < t then t else 200) < 60000 then (if (200 : Int32) < t then t else 200) else 60000) = (if (200 : Int32) ≤ t then (if t ≤ 60000 then t else 60000) else 200) := by
  by_cases h : (200 : Int32) ≤ t
  · have e : (if (200 : Int32) < t then t else 200) = t := by
      by_cases h2 : (200 : Int32) < t
      · rw [if_pos h2]
      · rw [if_neg h2]
        exact Int32.le_antisymm h (Int32.not_lt.mp h2)
    rw [e, if_pos h]
    exact mn_eq t 60000
  · have e : (if (200 : Int32) < t then t else 200) = 200 := if_neg (fun w => h (Int32.le_of_lt w))
    rw [e, if_neg h]
    decide
theorem SQ_told {sv tv cv u mi : Nat → Int32} {k0 g0 a : Int32} (h : SQ sv tv cv k0 g0 u) (hr : u 52 = 0 ↔ u 50 = 0) : SQ sv (xc_ttold tv a (mi 4)) cv k0 g0 (v_measures a mi u).1 := by
  have e4 := SQ_t4 h
  have e5 := SQ_t5 h
  have e1 := SQ_t1 h
  have e2 := SQ_t2 h
  unfold xc_ttold v_measures
  simp only [bd]
  by_cases h1 : tv 4 = -1
  · rw [if_pos h1, if_pos (show u 69 = -1 by rw [← e4]; exact h1)]
    exact h
  · rw [if_neg h1, if_neg (show ¬ u 69 = -1 by rw [← e4]; exact h1)]
    by_cases h2 : a ≤ tv 4
    · rw [if_pos h2, if_neg (show ¬ u 69 < a by rw [← e4]; exact Int32.not_lt.mpr h2)]
      exact h
    · rw [if_neg h2, if_pos (show u 69 < a by rw [← e4]; exact Int32.not_le.mp h2)]
      unfold xc_tlearn xc_tlearn_71
      simp (decide := true) only [bd, upd_a, upd_b, ne_eq, not_false_eq_true]
      rw [← e5]
      generalize mi 4 - tv 5 = r
      have h4 := SQ_ut4 (v := -1) (w := -1) h rfl
      by_cases h3 : tv 1 = 0
      · rw [if_pos h3, if_pos (hr.mpr (by rw [← e1]; exact h3))]
        have hc := SQ_ut2 (SQ_ut1 (SQ_x52 (w := vp_nar .boolean 1) h4) (rfl : 8 * r = 8 * r)) (rfl : 2 * r = 2 * r)
        simp only [clamp_eq, mx_eq (1 : Int32)]
        by_cases h7 : 2 * r ≤ 1
        · simp only [if_pos h7]
          by_cases h5 : (200 : Int32) ≤ 8 * r / 8 + 1
          · by_cases h6 : 8 * r / 8 + 1 ≤ 60000
            · simp only [if_pos h5, if_pos h6]
              exact SQ_ut0 hc rfl
            · simp only [if_pos h5, if_neg h6]
              exact SQ_ut0 hc rfl
          · simp only [if_neg h5]
            exact SQ_ut0 hc rfl
        · simp only [if_neg h7]
          by_cases h5 : (200 : Int32) ≤ 8 * r / 8 + 2 * r
          · by_cases h6 : 8 * r / 8 + 2 * r ≤ 60000
            · simp only [if_pos h5, if_pos h6]
              exact SQ_ut0 hc rfl
            · simp only [if_pos h5, if_neg h6]
              exact SQ_ut0 hc rfl
          · simp only [if_neg h5]
            exact SQ_ut0 hc rfl
      · rw [if_neg h3, if_neg (show ¬ u 52 = 0 from fun w => h3 (by rw [e1]; exact hr.mp w))]
        rw [← e1, ← e2]
        simp only [clamp_eq, mx_eq (1 : Int32)]
        by_cases h8 : (0 : Int32) ≤ tv 1 / 8 - r
        · simp only [if_pos h8]
          have hc := SQ_ut1 (SQ_ut2 h4 (rfl : tv 2 - tv 2 / 4 + (tv 1 / 8 - r) = tv 2 - tv 2 / 4 + (tv 1 / 8 - r))) (rfl : tv 1 - tv 1 / 8 + r = tv 1 - tv 1 / 8 + r)
          by_cases h7 : tv 2 - tv 2 / 4 + (tv 1 / 8 - r) ≤ 1
          · simp only [if_pos h7]
            by_cases h5 : (200 : Int32) ≤ (tv 1 - tv 1 / 8 + r) / 8 + 1
            · by_cases h6 : (tv 1 - tv 1 / 8 + r) / 8 + 1 ≤ 60000
              · simp only [if_pos h5, if_pos h6]
                exact SQ_ut0 hc rfl
              · simp only [if_pos h5, if_neg h6]
                exact SQ_ut0 hc rfl
            · simp only [if_neg h5]
              exact SQ_ut0 hc rfl
          · simp only [if_neg h7]
            by_cases h5 : (200 : Int32) ≤ (tv 1 - tv 1 / 8 + r) / 8 + (tv 2 - tv 2 / 4 + (tv 1 / 8 - r))
            · by_cases h6 : (tv 1 - tv 1 / 8 + r) / 8 + (tv 2 - tv 2 / 4 + (tv 1 / 8 - r)) ≤ 60000
              · simp only [if_pos h5, if_pos h6]
                exact SQ_ut0 hc rfl
              · simp only [if_pos h5, if_neg h6]
                exact SQ_ut0 hc rfl
            · simp only [if_neg h5]
              exact SQ_ut0 hc rfl
        · simp only [if_neg h8, Int32.zero_sub]
          have hc := SQ_ut1 (SQ_ut2 h4 (rfl : tv 2 - tv 2 / 4 + -(tv 1 / 8 - r) = tv 2 - tv 2 / 4 + -(tv 1 / 8 - r))) (rfl : tv 1 - tv 1 / 8 + r = tv 1 - tv 1 / 8 + r)
          by_cases h7 : tv 2 - tv 2 / 4 + -(tv 1 / 8 - r) ≤ 1
          · simp only [if_pos h7]
            by_cases h5 : (200 : Int32) ≤ (tv 1 - tv 1 / 8 + r) / 8 + 1
            · by_cases h6 : (tv 1 - tv 1 / 8 + r) / 8 + 1 ≤ 60000
              · simp only [if_pos h5, if_pos h6]
                exact SQ_ut0 hc rfl
              · simp only [if_pos h5, if_neg h6]
                exact SQ_ut0 hc rfl
            · simp only [if_neg h5]
              exact SQ_ut0 hc rfl
          · simp only [if_neg h7]
            by_cases h5 : (200 : Int32) ≤ (tv 1 - tv 1 / 8 + r) / 8 + (tv 2 - tv 2 / 4 + -(tv 1 / 8 - r))
            · by_cases h6 : (tv 1 - tv 1 / 8 + r) / 8 + (tv 2 - tv 2 / 4 + -(tv 1 / 8 - r)) ≤ 60000
              · simp only [if_pos h5, if_pos h6]
                exact SQ_ut0 hc rfl
              · simp only [if_pos h5, if_neg h6]
                exact SQ_ut0 hc rfl
            · simp only [if_neg h5]
              exact SQ_ut0 hc rfl

/-! a sending: the flow's own part of sendsOne -/
def v_tim (t : Int32) (u : Nat → Int32) : Nat → Int32 := if u 61 = -1 then upd u 61 (t + u 49) else u
def v_one (s t : Int32) (u : Nat → Int32) : Nat → Int32 := if u 46 ≤ s then (if u 69 = -1 then v_tim t (upd (upd (upd u 46 (s + 1)) 69 s) 70 t) else v_tim t (upd u 46 (s + 1))) else (if u 69 = s then v_tim t (upd (upd u 59 (u 59 + 1)) 69 (-1)) else v_tim t (upd u 59 (u 59 + 1)))
theorem xc_tsetIf_eq {tv : Nat → Int32} {t : Int32} : xc_tsetIf tv t = if tv 3 = -1 then upd tv 3 (t + tv 0) else tv := by
  unfold xc_tsetIf xc_tset
  simp only [bd]
theorem SQ_tim {sv tv cv u : Nat → Int32} {k0 g0 t : Int32} (h : SQ sv tv cv k0 g0 u) : SQ sv (xc_tsetIf tv t) cv k0 g0 (v_tim t u) := by
  rw [xc_tsetIf_eq]
  unfold v_tim
  by_cases h1 : tv 3 = -1
  · rw [if_pos h1, if_pos (by rw [← SQ_t3 h]; exact h1)]
    exact SQ_ut3 h (by rw [SQ_t0 h])
  · rw [if_neg h1, if_neg (by rw [← SQ_t3 h]; exact h1)]
    exact h
theorem x_sendsOne_v {f s r : Int32} {F : Nat} (hF : f.toNatClampNeg = F) {mi m1 : Nat → Int32} {ma a2 : Nat → Nat → Int32} {u : Nat → Int32} (hp : x_puts f s 0 mi ma = (m1, setc a2 F u, r)) : x_sendsOne f s mi ma = (m1, setc a2 F (v_one s (m1 4) u), 0) := by
  unfold x_sendsOne v_one v_tim
  rw [hp]
  simp (decide := true) only [bc, bd, hF, up_setc, setc_at, upd_a, upd_b, ne_eq, not_false_eq_true]
  by_cases h1 : u 46 ≤ s
  · simp only [if_pos h1]
    by_cases h2 : u 69 = -1
    · simp only [if_pos h2]
      by_cases h3 : u 61 = -1
      · simp only [if_pos h3]
      · simp only [if_neg h3]
    · simp only [if_neg h2]
      by_cases h3 : u 61 = -1
      · simp only [if_pos h3]
      · simp only [if_neg h3]
  · simp only [if_neg h1]
    by_cases h2 : u 69 = s
    · simp only [if_pos h2]
      by_cases h3 : u 61 = -1
      · simp only [if_pos h3]
      · simp only [if_neg h3]
    · simp only [if_neg h2]
      by_cases h3 : u 61 = -1
      · simp only [if_pos h3]
      · simp only [if_neg h3]
theorem add1_lt {a b : Int32} (hb : b.toInt < 2147483647) (h : a ≤ b) : a < b + 1 := by
  have h1 := Int32.le_iff_toInt_le.mp h
  refine Int32.lt_iff_toInt_lt.mpr ?_
  have hb0 := b.le_toInt
  have e : (b + 1).toInt = b.toInt + 1 := by
    rw [Int32.toInt_add, show (1 : Int32).toInt = 1 by decide]
    apply Int.bmod_eq_of_le <;> simp at * <;> omega
  omega
theorem add1_le {a b : Int32} (hb : b.toInt < 2147483647) (h : ¬ a ≤ b) : ¬ a < b + 1 := by
  have h1 := Int32.lt_iff_toInt_lt.mp (Int32.not_le.mp h)
  intro w
  have h2 := Int32.lt_iff_toInt_lt.mp w
  have hb0 := b.le_toInt
  have e : (b + 1).toInt = b.toInt + 1 := by
    rw [Int32.toInt_add, show (1 : Int32).toInt = 1 by decide]
    apply Int.bmod_eq_of_le <;> simp at * <;> omega
  omega
theorem xc_tsent0_eq {tv : Nat → Int32} {s t : Int32} : xc_tsent tv s 0 t = if tv 4 = -1 then xc_tsetIf (upd (upd tv 4 s) 5 t) t else xc_tsetIf tv t := by
  unfold xc_tsent xc_tsent_45
  rw [if_pos rfl]
  simp only [bd]
theorem xc_tsent1_eq {tv : Nat → Int32} {s t : Int32} : xc_tsent tv s 1 t = if s = tv 4 then xc_tsetIf (upd tv 4 (-1)) t else xc_tsetIf tv t := by
  unfold xc_tsent xc_tsent_21 xc_tsent_45
  rw [if_neg (by decide)]
  simp only [bd, upd_c]
/-- the class's own part of a sending -/
def c_one (sv tv : Nat → Int32) (g : Nat → Int64) (s t : Int32) : (Nat → Int32) × (Nat → Int32) × (Nat → Int64) := if sv 5 ≤ s then (upd sv 5 (s + 1), xc_tsent tv s 0 t, g) else (upd sv 15 (sv 15 + 1), xc_tsent tv s 1 t, xc_put g s)
theorem SQ_one {sv tv cv u : Nat → Int32} {g : Nat → Int64} {k0 g0 s t : Int32} (h : SQ sv tv cv k0 g0 u) : SQ (c_one sv tv g s t).1 (c_one sv tv g s t).2.1 cv k0 g0 (v_one s t u) := by
  unfold c_one v_one
  by_cases h1 : sv 5 ≤ s
  · rw [if_pos h1, if_pos (by rw [← SQ_s5 h]; exact h1)]
    have h2 := SQ_us5 h (rfl : s + 1 = s + 1)
    show SQ (upd sv 5 (s + 1)) (xc_tsent tv s 0 t) cv k0 g0 _
    rw [xc_tsent0_eq]
    by_cases h3 : tv 4 = -1
    · rw [if_pos h3, if_pos (by rw [← SQ_t4 h]; exact h3)]
      exact SQ_tim (SQ_ut5 (SQ_ut4 h2 rfl) rfl)
    · rw [if_neg h3, if_neg (by rw [← SQ_t4 h]; exact h3)]
      exact SQ_tim h2
  · rw [if_neg h1, if_neg (by rw [← SQ_s5 h]; exact h1)]
    have h2 := SQ_us15 h (show sv 15 + 1 = u 59 + 1 by rw [SQ_s15 h])
    show SQ (upd sv 15 (sv 15 + 1)) (xc_tsent tv s 1 t) cv k0 g0 _
    rw [xc_tsent1_eq]
    by_cases h3 : s = tv 4
    · rw [if_pos h3, if_pos (by rw [← SQ_t4 h]; exact h3.symm)]
      exact SQ_tim (SQ_ut4 h2 rfl)
    · rw [if_neg h3, if_neg (by rw [← SQ_t4 h]; exact fun w => h3 w.symm)]
      exact SQ_tim h2
theorem xc_transmit_eq {ov tf sv tv bv cv : Nat → Int32} {go : Option S4} {gq : List S3} {n0 k0 g0 s t : Int32} {f g : Nat → Int64} (hb : s.toInt < 2147483647) : xc_transmit ov go gq tf n0 k0 g0 sv tv bv cv f g s t = ((c_one sv tv g s t).1, (c_one sv tv g s t).2.1, bv, cv, f, (c_one sv tv g s t).2.2, xc_launch ov go gq tf n0 s 0 t) := by
  unfold xc_transmit c_one
  simp only [bd]
  by_cases h1 : sv 5 ≤ s
  · simp only [if_pos h1, if_pos (add1_lt hb h1)]
  · simp only [if_neg h1, upd_b (show (5 : Nat) ≠ 15 by decide), if_neg (add1_le hb h1)]
    have e : upd (upd sv 15 (sv 15 + 1)) 5 (sv 5) = upd sv 15 (sv 15 + 1) := by
      have := upd_c (f := upd sv 15 (sv 15 + 1)) (k := 5)
      rw [upd_b (show (5 : Nat) ≠ 15 by decide)] at this
      exact this
    rw [e]

/-- at least 1 -/
def max1 (x : Int32) : Int32 := if x ≤ 1 then 1 else x
def gwin (c e : Int32) (j : Int64) : Int32 := if e ≤ c + max1 (((j - c.toInt64) * 1024 / c.toInt64).toInt32) then c + max1 (((j - c.toInt64) * 1024 / c.toInt64).toInt32) else e
theorem g331 {mi u : Nat → Int32} {j4 : Int64} : v_grows_331 mi u j4 = ((v_opens (gwin (u 47) (u 66 + 555008 / u 47) j4) mi (upd u 66 (u 66 + 555008 / u 47))).1, 0) := by
  unfold v_grows_331 gwin max1
  simp (decide := true) only [bd_eq, upd_a, upd_b, ne_eq, not_false_eq_true]
  generalize ((j4 - (u 47).toInt64) * 1024 / (u 47).toInt64).toInt32 = q
  generalize u 66 + 555008 / u 47 = e
  by_cases h1 : q ≤ 1
  · simp only [if_pos h1]
    by_cases h2 : e ≤ u 47 + 1
    · simp only [if_pos h2]
    · simp only [if_neg h2]
  · simp only [if_neg h1]
    by_cases h2 : e ≤ u 47 + q
    · simp only [if_pos h2]
    · simp only [if_neg h2]
def rjt (c : Int32) (t : Int64) : Int64 := if (0 : Int32) ≤ lg_cmp t c.toInt64 then (if lg_cmp t (c * 3 / 2).toInt64 ≤ 0 then t else (c * 3 / 2).toInt64) else c.toInt64
def cjt (c : Int32) (t : Int64) : Int64 := if (if (c * 3 / 2).toInt64 < t then (c * 3 / 2).toInt64 else t) < c.toInt64 then c.toInt64 else (if (c * 3 / 2).toInt64 < t then (c * 3 / 2).toInt64 else t)
def tgt (o : Int32) (d : Int64) : Int64 := o.toInt64 + d * d * d * 4096 / 10000000000
theorem g255 {mi u : Nat → Int32} {j2 : Int64} : v_grows_255 mi u j2 = v_grows_331 mi u (rjt (u 47) (tgt (u 65) j2)) := by
  unfold v_grows_255 rjt tgt
  simp only [bd_eq]
  generalize (u 65).toInt64 + j2 * j2 * j2 * 4096 / 10000000000 = t
  by_cases h1 : (0 : Int32) ≤ lg_cmp t (u 47).toInt64
  · simp only [if_pos h1]
    by_cases h2 : lg_cmp t (u 47 * 3 / 2).toInt64 ≤ 0
    · simp only [if_pos h2]
    · simp only [if_neg h2]
  · simp only [if_neg h1]
def rhold (x : Int64) : Int64 := if (0 : Int32) ≤ lg_cmp x ((-100000) : Int64) then (if lg_cmp x (100000 : Int64) ≤ 0 then x else (100000 : Int64)) else ((-100000) : Int64)
theorem g192 {mi u : Nat → Int32} : v_grows_192 mi u = v_grows_255 mi u (rhold ((mi 4).toInt64 - (u 67).toInt64 + (u 50 / 8).toInt64 - (u 64).toInt64)) := by
  unfold v_grows_192 rhold
  simp only [bd_eq]
  generalize (mi 4).toInt64 - (u 67).toInt64 + (u 50 / 8).toInt64 - (u 64).toInt64 = t
  by_cases h1 : (0 : Int32) ≤ lg_cmp t ((-100000) : Int64)
  · simp only [if_pos h1]
    by_cases h2 : lg_cmp t (100000 : Int64) ≤ 0
    · simp only [if_pos h2]
    · simp only [if_neg h2]
  · simp only [if_neg h1]
theorem c32 {c : Int32} (c1 : 1 ≤ c.toInt) (c2 : c.toInt ≤ 262144) : (c * 3 / 2).toInt64.toInt = c.toInt * 3 / 2 := by
  have a := ti_mulr (x := c * 3) (k := 3) rfl tk_3 (by omega) (by omega)
  rw [Int32.toInt_toInt64, ti_divc (x := c * 3 / 2) (k := 2) rfl (by decide) (by decide) (by omega), a]
theorem cjt_eq {c : Int32} {t : Int64} (c1 : 1 ≤ c.toInt) (c2 : c.toInt ≤ 262144) : cjt c t = rjt c t := by
  have hb := c32 c1 c2
  have hc : c.toInt64.toInt = c.toInt := Int32.toInt_toInt64 _
  unfold cjt rjt
  generalize (c * 3 / 2).toInt64 = b at hb
  generalize c.toInt64 = d at hc
  by_cases h1 : d ≤ t
  · have a1 := Int64.le_iff_toInt_le.mp h1
    rw [if_pos ((lg_cmp_ge t d).mpr h1)]
    by_cases h2 : t ≤ b
    · have a2 := Int64.le_iff_toInt_le.mp h2
      have n1 : ¬ b < t := fun w => by have := Int64.lt_iff_toInt_lt.mp w; omega
      have n2 : ¬ t < d := fun w => by have := Int64.lt_iff_toInt_lt.mp w; omega
      rw [if_pos ((lg_cmp_le t b).mpr h2), if_neg n1, if_neg n2]
    · have a2 : ¬ t.toInt ≤ b.toInt := fun w => h2 (Int64.le_iff_toInt_le.mpr w)
      have n1 : b < t := Int64.lt_iff_toInt_lt.mpr (by omega)
      have n2 : ¬ b < d := fun w => by have := Int64.lt_iff_toInt_lt.mp w; omega
      rw [if_neg (fun w => h2 ((lg_cmp_le t b).mp w)), if_pos n1, if_neg n2]
  · have a1 : ¬ d.toInt ≤ t.toInt := fun w => h1 (Int64.le_iff_toInt_le.mpr w)
    have n1 : ¬ b < t := fun w => by have := Int64.lt_iff_toInt_lt.mp w; omega
    have n2 : t < d := Int64.lt_iff_toInt_lt.mpr (by omega)
    rw [if_neg (fun w => h1 ((lg_cmp_ge t d).mp w)), if_neg n1, if_pos n2]
theorem rjt_rg {c : Int32} {t : Int64} (c1 : 1 ≤ c.toInt) (c2 : c.toInt ≤ 262144) : c.toInt ≤ (rjt c t).toInt ∧ (rjt c t).toInt ≤ c.toInt * 3 / 2 := by
  have hb := c32 c1 c2
  have hc : c.toInt64.toInt = c.toInt := Int32.toInt_toInt64 _
  unfold rjt
  generalize (c * 3 / 2).toInt64 = b at hb
  generalize c.toInt64 = d at hc
  by_cases h1 : (0 : Int32) ≤ lg_cmp t d
  · rw [if_pos h1]
    have a1 := Int64.le_iff_toInt_le.mp ((lg_cmp_ge t d).mp h1)
    by_cases h2 : lg_cmp t b ≤ 0
    · rw [if_pos h2]
      have a2 := Int64.le_iff_toInt_le.mp ((lg_cmp_le t b).mp h2)
      omega
    · rw [if_neg h2]
      omega
  · rw [if_neg h1]
    omega
theorem q_rg {c : Int32} {j : Int64} (c1 : 1 ≤ c.toInt) (c2 : c.toInt ≤ 262144) (h1 : c.toInt ≤ j.toInt) (h2 : j.toInt ≤ c.toInt * 3 / 2) : 0 ≤ ((j - c.toInt64) * 1024 / c.toInt64).toInt ∧ ((j - c.toInt64) * 1024 / c.toInt64).toInt ≤ 134217728 := by
  have hc : c.toInt64.toInt = c.toInt := Int32.toInt_toInt64 _
  have a1 : (j - c.toInt64).toInt = j.toInt - c.toInt := by
    rw [tl_sub rfl (by rw [hc]; omega) (by rw [hc]; omega), hc]
  have a2 : ((j - c.toInt64) * 1024).toInt = (j.toInt - c.toInt) * 1024 := by
    rw [Int64.toInt_mul, a1, show (1024 : Int64).toInt = 1024 by decide]
    exact Int.bmod_eq_of_le (by omega) (by omega)
  rw [Int64.toInt_div_of_ne_right _ _ (fun w => by have := congrArg Int64.toInt w; rw [hc, show (-1 : Int64).toInt = -1 by decide] at this; omega), a2, hc, Int.tdiv_eq_ediv_of_nonneg (by omega)]
  have b1 : 0 ≤ (j.toInt - c.toInt) * 1024 := by omega
  exact ⟨Int.ediv_nonneg b1 (by omega), Int.le_trans (Int.ediv_le_self _ b1) (by omega)⟩
theorem max1_64 {q : Int64} (h1 : 0 ≤ q.toInt) (h2 : q.toInt ≤ 134217728) : (if q < 1 then (1 : Int64) else q).toInt32 = max1 q.toInt32 := by
  have e : q.toInt32.toInt = q.toInt := by
    rw [Int64.toInt_toInt32]
    exact Int.bmod_eq_of_le (by omega) (by omega)
  unfold max1
  by_cases h : q < 1
  · have a := Int64.lt_iff_toInt_lt.mp h
    rw [show (1 : Int64).toInt = 1 by decide] at a
    rw [if_pos h, if_pos (Int32.le_iff_toInt_le.mpr (by rw [e, show (1 : Int32).toInt = 1 by decide]; omega))]
    decide
  · have a : ¬ q.toInt < (1 : Int64).toInt := fun w => h (Int64.lt_iff_toInt_lt.mpr w)
    rw [show (1 : Int64).toInt = 1 by decide] at a
    rw [if_neg h]
    by_cases h3 : q.toInt32 ≤ 1
    · have b := Int32.le_iff_toInt_le.mp h3
      rw [e, show (1 : Int32).toInt = 1 by decide] at b
      rw [if_pos h3]
      apply Int32.toInt_inj.mp
      rw [e, show (1 : Int32).toInt = 1 by decide]
      omega
    · rw [if_neg h3]
theorem c1mx {c : Int32} (c1 : 1 ≤ c.toInt) : (if 1 < c then c else 1) = c := by
  by_cases h : 1 < c
  · rw [if_pos h]
  · rw [if_neg h]
    have a : ¬ (1 : Int32).toInt < c.toInt := fun w => h (Int32.lt_iff_toInt_lt.mpr w)
    rw [show (1 : Int32).toInt = 1 by decide] at a
    apply Int32.toInt_inj.mp
    rw [show (1 : Int32).toInt = 1 by decide]
    omega
theorem div64 {c : Int32} (c1 : 1 ≤ c.toInt) : ((555008 : Int64) / c.toInt64).toInt32 = 555008 / c := by
  rw [show (555008 : Int64) = (555008 : Int32).toInt64 by decide, ← Int32.toInt64_div_of_ne_right _ _ (fun w => by have := congrArg Int32.toInt w; rw [show (-1 : Int32).toInt = -1 by decide] at this; omega)]
  exact Int32.toInt32_toInt64 _

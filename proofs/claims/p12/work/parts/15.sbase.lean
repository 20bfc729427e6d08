/-! rows for walks with any numbers -/
theorem sw_up {i i2 b : Int32} (c : ¬ b ≤ i) (e : i2 = i + 1) : (b.toInt - i2.toInt).toNat < (b.toInt - i.toInt).toNat := by
  have h : i.toInt < b.toInt := by
    have q := Int32.not_le.mp c
    exact Int32.lt_iff_toInt_lt.mp q
  have hb := b.toInt_lt
  have hi := i.le_toInt
  have h2 : i2.toInt = i.toInt + 1 := by
    rw [e, Int32.toInt_add]
    apply Int.bmod_eq_of_le <;> simp at * <;> omega
  rw [h2]
  omega
theorem sw_down {x x2 : Int32} (c : ¬ x ≤ 0) (e : x2 = x + (-1)) : x2.toInt.toNat < x.toInt.toNat := by
  have h : (0 : Int32).toInt < x.toInt := Int32.lt_iff_toInt_lt.mp (Int32.not_le.mp c)
  have h0 : (0 : Int32).toInt = 0 := by decide
  have hb := x.toInt_lt
  have h2 : x2.toInt = x.toInt - 1 := by
    rw [e, Int32.toInt_add, show (-1 : Int32).toInt = -1 by decide]
    apply Int.bmod_eq_of_le <;> simp at * <;> omega
  rw [h2]
  omega
theorem sw_dn {x x2 u : Int32} (c : ¬ x ≤ u) (e : x2 = x + (-1)) : (x2.toInt - u.toInt).toNat < (x.toInt - u.toInt).toNat := by
  have h : u.toInt < x.toInt := Int32.lt_iff_toInt_lt.mp (Int32.not_le.mp c)
  have hb := x.toInt_lt
  have hu := u.le_toInt
  have h2 : x2.toInt = x.toInt - 1 := by
    rw [e, Int32.toInt_add, show (-1 : Int32).toInt = -1 by decide]
    apply Int.bmod_eq_of_le <;> simp at * <;> omega
  rw [h2]
  omega
theorem sw_f {x a a1 x1 x2 a2 : Int32} (c : ¬ x ≤ 0) (e : x = a) (h3 : a = a1) (e2 : x1 = a1) (e4 : x2 = x1 - 1) (e1 : x2 = a2) : a2.toInt.toNat < a.toInt.toNat := by
  subst e
  subst h3
  subst e2
  subst e1
  exact sw_down c (by rw [e4, Int32.sub_eq_add_neg])
theorem sw_mx1 {x y : Int32} (e : x = if (1 : Int32) < y then y else 1) : ¬ x = 0 := by
  intro q
  rw [q] at e
  by_cases h : (1 : Int32) < y
  · rw [if_pos h] at e
    rw [← e] at h
    exact absurd h (by decide)
  · rw [if_neg h] at e
    exact absurd e (by decide)
theorem sw_nzl {x : Int32} {y : Int64} (h : ¬ x = 0) (e : y = x.toInt64) : ¬ y = 0 := by
  intro q
  rw [q] at e
  apply h
  have e2 := congrArg Int64.toInt e
  rw [Int32.toInt_toInt64] at e2
  exact Int32.toInt_inj.mp (e2.symm.trans (by decide))
theorem sw_half {x : Int32} {y y2 : Int64} (c : ¬ x ≤ 0) (ex : x = lg_cmp y 0) (e : y2 = y / 2) : y2.toInt.toNat < y.toInt.toNat := by
  have h : 0 < y.toInt := by
    rcases Int.lt_or_le 0 y.toInt with q | q
    · exact q
    · exfalso
      apply c
      rw [ex]
      unfold lg_cmp
      have h0 : ¬ y > 0 := by
        intro w
        have := Int64.lt_iff_toInt_lt.mp w
        rw [show (0 : Int64).toInt = 0 by decide] at this
        omega
      rw [if_neg h0]
      split <;> decide
  obtain ⟨k, hk, rfl⟩ := pk_lOf (x := y) (by
    intro w
    have := Int64.lt_iff_toInt_lt.mp w
    rw [show (0 : Int64).toInt = 0 by decide] at this
    omega)
  rw [e, show (2 : Int64) = lN 2 by decide, pk_lDiv hk (by decide) (by decide), pk_lT hk, pk_lT (by omega)]
  rw [pk_lT hk] at h
  omega
theorem sw_in {i : Int32} {k : Nat} (hk : k < 2 ^ 31) (h0 : 0 ≤ i) (h : ¬ nI k ≤ i) : vp_in i k := by
  obtain ⟨j, hj, rfl⟩ := nI_of (Int32.not_lt.mpr h0)
  refine vp_in_nI ?_ hk
  rcases Nat.lt_or_ge j k with q | q
  · exact q
  · exact absurd (nI_le q hj) h
theorem sw_ge1 {i i2 : Int32} {k : Nat} (hk : k < 2 ^ 31) (h0 : 0 ≤ i) (h : ¬ nI k ≤ i) (e : i2 = i + 1) : 0 ≤ i2 := by
  obtain ⟨j, hj, rfl⟩ := nI_of (Int32.not_lt.mpr h0)
  rw [e, nI_1]
  refine nI_pos' ?_
  rcases Nat.lt_or_ge j k with q | q
  · omega
  · exact absurd (nI_le q hj) h
theorem sw_ix (x : Int32) : vp_in (x &&& 3) 4 := pk_andIn x (m := 3) 2 (by decide) (by decide)

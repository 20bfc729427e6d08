theorem v_tim_ms {t : Int32} {w : Nat → Int32} : v_tim t w 69 = w 69 ∧ v_tim t w 70 = w 70 := ⟨v_tim_UF 69 (by decide), v_tim_UF 70 (by decide)⟩
theorem v_one_ms {T : Int} {s t : Int32} {u : Nat → Int32} (h : u 69 = -1 ∨ (0 ≤ (u 70).toInt ∧ (u 70).toInt < T)) (ht : u 46 ≤ s → 0 ≤ t.toInt ∧ t.toInt < T) : v_one s t u 69 = -1 ∨ (0 ≤ (v_one s t u 70).toInt ∧ (v_one s t u 70).toInt < T) := by
  unfold v_one
  by_cases c : u 46 ≤ s
  · rw [if_pos c]
    by_cases d : u 69 = -1
    · rw [if_pos d, v_tim_ms.1, v_tim_ms.2, upd_a]
      exact Or.inr (ht c)
    · rw [if_neg d, v_tim_ms.1, v_tim_ms.2, upd_b (by decide), upd_b (by decide)]
      exact h
  · rw [if_neg c]
    by_cases d : u 69 = s
    · rw [if_pos d, v_tim_ms.1, upd_a]
      exact Or.inl rfl
    · rw [if_neg d, v_tim_ms.1, v_tim_ms.2, upd_b (by decide), upd_b (by decide)]
      exact h
theorem SI_again {T : Int} {s t : Int32} {u u2 : Nat → Int32} (h : SI T t u) (hs : ¬ u 46 ≤ s) (e : AG (v_one s t u) u2) : SI T t u2 := by
  refine SI_congr ?_ e
  obtain ⟨h1, h2, h3, h4, h5, h6, h7, h8⟩ := h
  have hU := v_one_UF (s := s) (t := t) (u := u)
  have e46 : v_one s t u 46 = u 46 := by rw [v_one_46, if_neg hs]
  unfold SI
  rw [e46, hU 50 (by decide), hU 52 (by decide), hU 67 (by decide), hU 64 (by decide), hU 49 (by decide), hU 44 (by decide), hU 45 (by decide), hU 55 (by decide), hU 42 (by decide), hU 54 (by decide), hU 56 (by decide)]
  exact ⟨h1, h2, v_one_ms h3 (fun w => absurd w hs), h4, h5, h6, h7, h8⟩
theorem SI_next {T : Int} {t : Int32} {u u2 : Nat → Int32} (h : SI T t u) (ht : 0 ≤ t.toInt) (hT : t.toInt < T) (hb : (u 45).toInt < 2147483647) (e : AG (upd (v_one (u 45) t u) 45 (u 45 + 1)) u2) : SI T t u2 := by
  refine SI_congr ?_ e
  obtain ⟨h1, h2, h3, h4, h5, h6, h7, h8⟩ := h
  have hU := v_one_UF (s := u 45) (t := t) (u := u)
  have e1 := ti_add1 hb
  have hms := v_one_ms (s := u 45) (t := t) h3 (fun _ => ⟨ht, hT⟩)
  unfold SI
  simp (decide := true) only [upd_a, upd_b, ne_eq, not_false_eq_true]
  rw [hU 50 (by decide), hU 52 (by decide), hU 67 (by decide), hU 64 (by decide), hU 49 (by decide), hU 44 (by decide), hU 55 (by decide), hU 42 (by decide), hU 54 (by decide), hU 56 (by decide), v_one_46]
  refine ⟨h1, h2, hms, h4, h5, h6, ?_, fun hk => ?_⟩
  · by_cases c : u 46 ≤ u 45
    · have := Int32.le_iff_toInt_le.mp c
      rw [if_pos c, e1]
      omega
    · have := Int32.lt_iff_toInt_lt.mp (Int32.not_le.mp c)
      rw [if_neg c, e1]
      omega
  · obtain ⟨q1, q2⟩ := h8 hk
    by_cases c : u 46 ≤ u 45
    · rw [if_pos c]
      refine ⟨Or.inl rfl, fun hr => ?_⟩
      obtain ⟨r1, r2, r3, r4, r5⟩ := q2 hr
      exact ⟨rfl, r2, r3, r4, r5⟩
    · have hlt := Int32.lt_iff_toInt_lt.mp (Int32.not_le.mp c)
      rw [if_neg c]
      have hr0 : u 54 = 0 := by
        by_cases w : u 54 = 0
        · exact w
        · exact absurd (show u 46 ≤ u 45 by rw [(q2 w).1]; exact Int32.le_refl _) c
      refine ⟨?_, fun hr => absurd hr0 hr⟩
      rcases q1 with w | w | w
      · exact absurd (show u 46 ≤ u 45 by rw [w]; exact Int32.le_refl _) c
      · exact Or.inr (Or.inl w)
      · refine Or.inl (Int32.toInt_inj.mp ?_)
        rw [e1, w.2.2]
theorem BQ_keep {F : Nat} {bv : Nat → Int32} {f g g2 : Nat → Int64} {ma a : Nat → Nat → Int32} (h : BQ F bv f g ma) (e44 : a 44 F = ma 44 F) (e71 : ∀ i, i < 200 → a 71 (200 * F + i) = ma 71 (200 * F + i)) (hh : (ma 46 F).toInt ≤ (a 46 F).toInt) (hr : ¬ a 54 F = 0 → bv 3 = a 56 F ∧ RSq F g2 a) : BQ F bv f g2 a := by
  obtain ⟨h1, h2, h3, h4, h5⟩ := h
  refine ⟨fun i hi => ?_, ?_, fun i hi hm => ?_, fun i hi hm => ?_, hr⟩
  · rw [e44, e71 i hi]
    exact h1 i hi
  · have := e71 0 (by omega)
    rw [show 200 * F + 0 = 200 * F from rfl] at this
    rw [this]
    exact h2
  · rw [e71 i hi] at hm
    have := h3 i hi hm
    rw [e44]
    omega
  · have e1 : (fun i => a 71 (200 * F + i)) i = (fun i => ma 71 (200 * F + i)) i := e71 i hi
    rw [e1] at hm
    rw [e44, h4 i hi hm, mk_congr (B := fun i => ma 71 (200 * F + i)) (B2 := fun i => a 71 (200 * F + i)) (fun j hj => e71 j hj)]
theorem RSq_grow {F : Nat} {g : Nat → Int64} {ma a : Nat → Nat → Int32} (h : RSq F g ma) (e44 : a 44 F = ma 44 F) (e56 : a 56 F = ma 56 F) (e72 : ∀ i, i < 512 → a 72 (512 * F + i) = ma 72 (512 * F + i)) (hh : (ma 46 F).toInt ≤ (a 46 F).toInt) (hb : (ma 44 F).toInt ≤ (ma 56 F).toInt + 256) : RSq F g a := by
  obtain ⟨h1, h2⟩ := h
  refine ⟨fun m q1 q2 => ?_, fun m q1 q2 => ?_⟩
  · rw [e44] at q1 q2
    rw [h1 m q1 q2, e72 (m % 512) (by omega)]
    refine ⟨fun w => ⟨by omega, w.2⟩, fun w => ⟨?_, w.2⟩⟩
    rcases Int.lt_or_le (m : Int) (ma 46 F).toInt with z | z
    · exact z
    · exact absurd (h2 m z (by omega)) w.2
  · rw [e72 (m % 512) (by omega)]
    rw [e56] at q2
    exact h2 m (by omega) q2
theorem RSq_put {F : Nat} {g : Nat → Int64} {ma a : Nat → Nat → Int32} {s : Nat} (h : RSq F g ma) (e44 : a 44 F = ma 44 F) (e56 : a 56 F = ma 56 F) (e46 : a 46 F = ma 46 F) (e72 : ∀ i, i < 512 → a 72 (512 * F + i) = if i = s % 512 then 1 else ma 72 (512 * F + i)) (s1 : (ma 44 F).toInt ≤ s) (s2 : (s : Int) < (ma 46 F).toInt) (hb : (ma 56 F).toInt ≤ (ma 44 F).toInt) (hH : (ma 46 F).toInt ≤ (ma 44 F).toInt + 200) (hs : s < 2 ^ 31) : RSq F (xc_put g (nI s)) a := by
  obtain ⟨h1, h2⟩ := h
  refine ⟨fun m q1 q2 => ?_, fun m q1 q2 => ?_⟩
  · rw [e44] at q1 q2
    rw [bt4_put hs, e72 (m % 512) (by omega), e46]
    by_cases e : m = s
    · rw [if_pos (by rw [e]), if_pos (by rw [e])]
      exact ⟨fun _ => ⟨by omega, by decide⟩, fun _ => rfl⟩
    · rw [if_neg (by omega), if_neg (by omega)]
      exact h1 m q1 q2
  · rw [e46] at q1
    rw [e56] at q2
    rw [e72 (m % 512) (by omega), if_neg (by omega)]
    exact h2 m q1 q2
theorem lst_rg {B R : Nat → Int32} {U L : Nat} {bg : Int32} : ∀ {k : Nat} {x : Int32}, k ≤ L → (lst B R U L bg k x = x ∨ ∃ i, i < k ∧ lst B R U L bg k x = nI (U + i))
  | 0, x, _ => Or.inl rfl
  | k + 1, x, h => by
    have e : lst B R U L bg (k + 1) x = lst B R U L bg k (if hitB B R U L bg k then nI (U + k) else x) := rfl
    rw [e]
    rcases lst_rg (B := B) (R := R) (U := U) (L := L) (bg := bg) (k := k) (x := if hitB B R U L bg k then nI (U + k) else x) (by omega) with w | ⟨i, h1, h2⟩
    · rw [w]
      by_cases c : hitB B R U L bg k
      · rw [if_pos c]
        exact Or.inr ⟨k, by omega, rfl⟩
      · rw [if_neg c]
        exact Or.inl rfl
    · exact Or.inr ⟨i, by omega, h2⟩
theorem oul_rg {F : Nat} {a : Nat → Nat → Int32} (h : ¬ oul F a = -1) : (a 42 F = 3 ∧ ¬ a 54 F = 0) ∧ ∃ i, i < ouL F a ∧ oul F a = nI ((a 44 F).toInt.toNat + i) := by
  unfold oul at h ⊢
  by_cases c : a 42 F = 3 ∧ ¬ a 54 F = 0
  · rw [if_pos c] at h ⊢
    refine ⟨c, ?_⟩
    rcases lst_rg (B := fun i => a 71 (200 * F + i)) (R := fun i => a 72 (512 * F + ((a 44 F).toInt.toNat + i) % 512)) (U := (a 44 F).toInt.toNat) (L := ouL F a) (bg := a 56 F) (k := ouL F a) (x := -1) (Nat.le_refl _) with w | w
    · exact absurd w h
    · exact w
  · rw [if_neg c] at h
    exact absurd rfl h

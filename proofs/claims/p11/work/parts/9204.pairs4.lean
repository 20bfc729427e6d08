theorem xc_place_eq {ov tf : Nat → Int32} {n : Int32} : xc_place ov tf n = xc_place_2 ov tf n 65 n 0 := by
  unfold xc_place
  rw [show (((64 : Int32).toInt - (0 : Int32).toInt).toNat + 1) = 65 by decide]
theorem xc_launch_eq {ov tf : Nat → Int32} {go : Option S4} {gq : List S3} {n1 n2 n3 n4 : Int32} : xc_launch ov go gq tf n1 n2 n3 n4 = if xc_place ov tf (ov 11) = -1 then om go (upd ov 11 (ov 11 + 1), tf, some (n4 + ov 0, n1, n2, n3), gq) (fun _ => if nI gq.length < ov 1 then (upd ov 11 (ov 11 + 1), tf, go, gq ++ [(n1, n2, n3)]) else (upd (upd ov 11 (ov 11 + 1)) 12 (ov 12 + 1), tf, go, gq)) else (upd (xc_forget (upd ov 11 (ov 11 + 1)) tf (xc_place ov tf (ov 11))).1 13 ((xc_forget (upd ov 11 (ov 11 + 1)) tf (xc_place ov tf (ov 11))).1 13 + 1), (xc_forget (upd ov 11 (ov 11 + 1)) tf (xc_place ov tf (ov 11))).2, go, gq) := by
  unfold xc_launch
  simp (decide := true) only [bd, upd_a, upd_b, ne_eq, not_false_eq_true]
/-- what puts leaves -/
def PK (mi m1 : Nat → Int32) (ma a1 : Nat → Nat → Int32) : Prop := (∀ k, k ∉ ([5, 6, 26, 27, 28, 30] : List Nat) → m1 k = mi k) ∧ ∀ k, k ∉ ([7, 8, 9, 31] : List Nat) → a1 k = ma k
theorem nar01 {x : Int32} (h : x = 0 ∨ x = 1) : vp_nar .boolean x = x := by
  rcases h with h | h <;> rw [h] <;> rfl
theorem updk {f : Nat → Int32} {k j : Nat} {v : Int32} {l : List Nat} (hk : k ∈ l) (hj : j ∉ l) : upd f k v j = f j := upd_b (fun e => hj (e ▸ hk))
theorem vupk {f : Nat → Nat → Int32} {k j : Nat} {v : Nat → Int32} {l : List Nat} (hk : k ∈ l) (hj : j ∉ l) : va_up f k v j = f j := va_up_ne _ _ (fun e => hj (e ▸ hk))
theorem LQ_app {gq : List S3} {ma : Nat → Nat → Int32} {n1 n2 n3 : Int32} (hL : ∀ k e, gq[k]? = some e → e = (ma 7 (k + 1), ma 8 (k + 1), ma 9 (k + 1))) {k : Nat} {e : S3} (he : (gq ++ [(n1, n2, n3)])[k]? = some e) : e = (va_up (va_up (va_up ma 7 (upd (ma 7) (gq.length + 1) n1)) 8 (upd (ma 8) (gq.length + 1) n2)) 9 (upd (ma 9) (gq.length + 1) n3) 7 (k + 1), va_up (va_up (va_up ma 7 (upd (ma 7) (gq.length + 1) n1)) 8 (upd (ma 8) (gq.length + 1) n2)) 9 (upd (ma 9) (gq.length + 1) n3) 8 (k + 1), va_up (va_up (va_up ma 7 (upd (ma 7) (gq.length + 1) n1)) 8 (upd (ma 8) (gq.length + 1) n2)) 9 (upd (ma 9) (gq.length + 1) n3) 9 (k + 1)) := by
  simp (decide := true) only [va_up_self, va_up_ne, ne_eq, not_false_eq_true]
  rcases Nat.lt_or_ge k gq.length with w | w
  · rw [List.getElem?_append_left w] at he
    rw [upd_b (show k + 1 ≠ gq.length + 1 by omega), upd_b (show k + 1 ≠ gq.length + 1 by omega), upd_b (show k + 1 ≠ gq.length + 1 by omega)]
    exact hL k e he
  · rw [List.getElem?_append_right w] at he
    have hk : k = gq.length := by
      have := (List.getElem?_eq_some_iff.mp he).1
      simp at this
      omega
    subst hk
    rw [show gq.length - gq.length = 0 by omega] at he
    rw [upd_a, upd_a, upd_a]
    exact (Option.some.inj he).symm
theorem RQ_launch {ov tf mi : Nat → Int32} {ma : Nat → Nat → Int32} {go : Option S4} {gq : List S3} {n1 n2 n3 n4 : Int32} (h : RQ ov tf go gq mi ma) (h0 : 0 ≤ (mi 30).toInt) (h64 : (mi 30).toInt ≤ 64) (hq : gq.length ≤ 100) (hr : 0 ≤ (mi 1).toInt) (hz : n3 = 0 ∨ n3 = 1) (h4 : n4 = mi 4) : ∃ ov2 tf2 go2 gq2 m1 a1, xc_launch ov go gq tf n1 n2 n3 n4 = (ov2, tf2, go2, gq2) ∧ x_puts n1 n2 n3 mi ma = (m1, a1, 0) ∧ RQ ov2 tf2 go2 gq2 m1 a1 ∧ PK mi m1 ma a1 := by
  obtain ⟨⟨e0, e1, e2, e3⟩, ⟨e10, e11, e12, e13, e14⟩, ht, hN, hS, hL⟩ := h
  have hpl := puts_place (f := n1) (g := n2) (pb := n3) (n := mi 26) (mi := upd mi 26 (mi 26 + 1)) (ov := ov) (tf := tf) (ma := ma) (by rw [upd_b (by decide)]; exact e10) ht (by rw [upd_b (by decide)]; exact h64) 65 0 (by rw [upd_b (by decide)]; omega) (by rw [upd_b (by decide)]; exact h0)
  rw [x_puts_eq, xc_launch_eq, xc_place_eq, show ov 11 = mi 26 from e11]
  rw [show (nI 0) = (0 : Int32) by decide] at hpl
  generalize xc_place_2 ov tf (mi 26) 65 (mi 26) 0 = p at hpl
  obtain ⟨hx, hp⟩ := hpl
  rw [hx]
  have e11 : mi 26 = mi 26 := rfl
  by_cases hp1 : p = -1
  · rw [if_pos hp1, if_pos hp1]
    unfold p_end
    simp (decide := true) only [upd_b, ne_eq, not_false_eq_true]
    cases go with
    | none =>
      obtain ⟨l6, lq⟩ := hN rfl
      subst lq
      have c1 : mi 6 ≤ mi 1 := by
        rw [l6]
        exact Int32.le_iff_toInt_le.mpr (by rw [show (0 : Int32).toInt = 0 by decide]; exact hr)
      rw [if_pos c1, if_pos l6, l6, show (0 : Int32).toNatClampNeg = 0 by decide, nar01 hz]
      refine ⟨_, _, _, _, _, _, rfl, rfl, ⟨⟨(by simp (decide := true) only [upd_a, upd_b, ne_eq, not_false_eq_true]; try exact e0), (by simp (decide := true) only [upd_a, upd_b, ne_eq, not_false_eq_true]; try exact e1), (by simp (decide := true) only [upd_a, upd_b, ne_eq, not_false_eq_true]; try exact e2), (by simp (decide := true) only [upd_a, upd_b, ne_eq, not_false_eq_true]; try exact e3)⟩, ⟨(by simp (decide := true) only [upd_a, upd_b, ne_eq, not_false_eq_true]; try exact e10), (by simp (decide := true) only [upd_a, upd_b, ne_eq, not_false_eq_true]; try exact congrArg (· + 1) e11), (by simp (decide := true) only [upd_a, upd_b, ne_eq, not_false_eq_true]; try exact e12), (by simp (decide := true) only [upd_a, upd_b, ne_eq, not_false_eq_true]; try exact e13), (by simp (decide := true) only [upd_a, upd_b, ne_eq, not_false_eq_true]; try exact e14)⟩, fun i hi => by rw [va_up_ne _ _ (by decide), va_up_ne _ _ (by decide), va_up_ne _ _ (by decide)]; exact ht i hi, ⟨(fun w => by cases w), fun c hc => ⟨by simp (decide := true) only [upd_a, upd_b, ne_eq, not_false_eq_true]; try decide, by cases hc; simp (decide := true) only [upd_a, upd_b, va_up_self, va_up_ne, ne_eq, not_false_eq_true]; rw [h4, e0]⟩, fun k e he => by simp at he⟩⟩, ⟨fun k hk => ?_, fun k hk => ?_⟩⟩
      · rw [updk (l := [5, 6, 26, 27, 28, 30]) (by decide) hk, updk (l := [5, 6, 26, 27, 28, 30]) (by decide) hk, updk (l := [5, 6, 26, 27, 28, 30]) (by decide) hk]
      · rw [vupk (l := [7, 8, 9, 31]) (by decide) hk, vupk (l := [7, 8, 9, 31]) (by decide) hk, vupk (l := [7, 8, 9, 31]) (by decide) hk]
    | some c =>
      obtain ⟨l6, lc⟩ := hS c rfl
      have en : (nI gq.length).toInt = gq.length := nI_toInt (by omega)
      have en1 : (nI (gq.length + 1)).toInt = ((gq.length + 1 : Nat) : Int) := nI_toInt (by omega)
      have l60 : ¬ mi 6 = 0 := by
        intro w
        have := congrArg Int32.toInt w
        rw [l6, en1, show (0 : Int32).toInt = 0 by decide] at this
        omega
      have hom : ∀ (x : (Nat → Int32) × (Nat → Int32) × (Option S4) × (List S3)) (y : S4 → (Nat → Int32) × (Nat → Int32) × (Option S4) × (List S3)), om (some c) x y = y c := fun _ _ => rfl
      rw [hom]
      by_cases c1 : mi 6 ≤ mi 1
      · have c2 : nI gq.length < ov 1 := by
          refine Int32.lt_iff_toInt_lt.mpr ?_
          have := Int32.le_iff_toInt_le.mp c1
          rw [l6, en1] at this
          rw [en, e1]
          omega
        rw [if_pos c1, if_pos c2, if_neg l60, l6, nI_clamp (show gq.length + 1 < 2 ^ 31 by omega), nar01 hz]
        refine ⟨_, _, _, _, _, _, rfl, rfl, ⟨⟨(by simp (decide := true) only [upd_a, upd_b, ne_eq, not_false_eq_true]; try exact e0), (by simp (decide := true) only [upd_a, upd_b, ne_eq, not_false_eq_true]; try exact e1), (by simp (decide := true) only [upd_a, upd_b, ne_eq, not_false_eq_true]; try exact e2), (by simp (decide := true) only [upd_a, upd_b, ne_eq, not_false_eq_true]; try exact e3)⟩, ⟨(by simp (decide := true) only [upd_a, upd_b, ne_eq, not_false_eq_true]; try exact e10), (by simp (decide := true) only [upd_a, upd_b, ne_eq, not_false_eq_true]; try exact congrArg (· + 1) e11), (by simp (decide := true) only [upd_a, upd_b, ne_eq, not_false_eq_true]; try exact e12), (by simp (decide := true) only [upd_a, upd_b, ne_eq, not_false_eq_true]; try exact e13), (by simp (decide := true) only [upd_a, upd_b, ne_eq, not_false_eq_true]; try exact e14)⟩, fun i hi => by rw [va_up_ne _ _ (by decide), va_up_ne _ _ (by decide), va_up_ne _ _ (by decide)]; exact ht i hi, ⟨(fun w => by cases w), fun c2 hc => ⟨by rw [upd_a, nI_1, List.length_append]; rfl, by cases hc; simp (decide := true) only [upd_b, va_up_self, va_up_ne, ne_eq, not_false_eq_true]; rw [upd_b (show (0 : Nat) ≠ gq.length + 1 by omega), upd_b (show (0 : Nat) ≠ gq.length + 1 by omega), upd_b (show (0 : Nat) ≠ gq.length + 1 by omega)]; exact lc⟩, fun k e he => LQ_app hL he⟩⟩, ⟨fun k hk => ?_, fun k hk => ?_⟩⟩
        · rw [updk (l := [5, 6, 26, 27, 28, 30]) (by decide) hk, updk (l := [5, 6, 26, 27, 28, 30]) (by decide) hk]
        · rw [vupk (l := [7, 8, 9, 31]) (by decide) hk, vupk (l := [7, 8, 9, 31]) (by decide) hk, vupk (l := [7, 8, 9, 31]) (by decide) hk]
      · have c2 : ¬ nI gq.length < ov 1 := by
          intro w
          apply c1
          refine Int32.le_iff_toInt_le.mpr ?_
          have := Int32.lt_iff_toInt_lt.mp w
          rw [en, e1] at this
          rw [l6, en1]
          omega
        rw [if_neg c1, if_neg c2]
        refine ⟨_, _, _, _, _, _, rfl, rfl, ⟨⟨(by simp (decide := true) only [upd_a, upd_b, ne_eq, not_false_eq_true]; try exact e0), (by simp (decide := true) only [upd_a, upd_b, ne_eq, not_false_eq_true]; try exact e1), (by simp (decide := true) only [upd_a, upd_b, ne_eq, not_false_eq_true]; try exact e2), (by simp (decide := true) only [upd_a, upd_b, ne_eq, not_false_eq_true]; try exact e3)⟩, ⟨(by simp (decide := true) only [upd_a, upd_b, ne_eq, not_false_eq_true]; try exact e10), (by simp (decide := true) only [upd_a, upd_b, ne_eq, not_false_eq_true]; try exact congrArg (· + 1) e11), (by simp (decide := true) only [upd_a, upd_b, ne_eq, not_false_eq_true]; try exact congrArg (· + 1) e12), (by simp (decide := true) only [upd_a, upd_b, ne_eq, not_false_eq_true]; try exact e13), (by simp (decide := true) only [upd_a, upd_b, ne_eq, not_false_eq_true]; try exact e14)⟩, ht, ⟨(fun w => by cases w), fun c2 hc => ⟨by simp (decide := true) only [upd_b, ne_eq, not_false_eq_true]; cases hc; exact l6, by simp (decide := true) only [upd_b, ne_eq, not_false_eq_true]; cases hc; exact lc⟩, hL⟩⟩, ⟨fun k hk => ?_, fun k hk => rfl⟩⟩
        rw [updk (l := [5, 6, 26, 27, 28, 30]) (by decide) hk, updk (l := [5, 6, 26, 27, 28, 30]) (by decide) hk]
  · rw [if_neg hp1, if_neg hp1]
    obtain ⟨i, hi, hi2, ep⟩ := hp.resolve_left hp1
    rw [upd_b (show (30 : Nat) ≠ 26 by decide)] at hi2
    obtain ⟨t, ht1, ht2⟩ : ∃ t : Nat, t ≤ 64 ∧ mi 30 = nI t := ⟨(mi 30).toInt.toNat, by omega, by
      apply Int32.toInt_inj.mp
      rw [nI_toInt (by omega)]
      omega⟩
    have et : (mi 30).toInt = t := by rw [ht2]; exact nI_toInt (by omega)
    rw [ep, xc_forget_eq (t := t) (by omega) ht1 (by rw [upd_b (by decide), e10]; exact ht2)]
    unfold p_fnd
    have e30 : mi 30 - 1 = nI (t - 1) := by
      rw [ht2]
      obtain ⟨k, hk⟩ : ∃ k, t = k + 1 := ⟨t - 1, by omega⟩
      rw [hk, nI_pred]
      rfl
    simp (decide := true) only [upd_a, upd_b, ne_eq, not_false_eq_true]
    rw [e30, nI_clamp (show i < 2 ^ 31 by omega), nI_clamp (show t - 1 < 2 ^ 31 by omega)]
    refine ⟨_, _, _, _, _, _, rfl, rfl, ⟨⟨(by simp (decide := true) only [upd_a, upd_b, ne_eq, not_false_eq_true]; try exact e0), (by simp (decide := true) only [upd_a, upd_b, ne_eq, not_false_eq_true]; try exact e1), (by simp (decide := true) only [upd_a, upd_b, ne_eq, not_false_eq_true]; try exact e2), (by simp (decide := true) only [upd_a, upd_b, ne_eq, not_false_eq_true]; try exact e3)⟩, ⟨(by simp (decide := true) only [upd_a, upd_b, ne_eq, not_false_eq_true]), (by simp (decide := true) only [upd_a, upd_b, ne_eq, not_false_eq_true]; try exact rfl), (by simp (decide := true) only [upd_a, upd_b, ne_eq, not_false_eq_true]; try exact e12), (by simp (decide := true) only [upd_a, upd_b, ne_eq, not_false_eq_true]; try exact congrArg (· + 1) e13), (by simp (decide := true) only [upd_a, upd_b, ne_eq, not_false_eq_true]; try exact e14)⟩, ?_, ?_⟩, ⟨fun k hk => ?_, fun k hk => ?_⟩⟩
    · intro k hk
      rw [va_up_self]
      exact told_forget hi (by omega) ht k hk
    · refine ⟨fun w => ?_, fun c w => ?_, fun k e w => ?_⟩
      · simp (decide := true) only [upd_b, ne_eq, not_false_eq_true]
        exact hN w
      · simp (decide := true) only [upd_b, ne_eq, not_false_eq_true, va_up_ne]
        exact hS c w
      · simp (decide := true) only [ne_eq, not_false_eq_true, va_up_ne]
        exact hL k e w
    · rw [updk (l := [5, 6, 26, 27, 28, 30]) (by decide) hk, updk (l := [5, 6, 26, 27, 28, 30]) (by decide) hk, updk (l := [5, 6, 26, 27, 28, 30]) (by decide) hk]
    · rw [vupk (l := [7, 8, 9, 31]) (by decide) hk]

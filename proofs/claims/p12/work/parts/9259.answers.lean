theorem BRq_pack {n j : Nat} {FX : Nat → Nat → Int32} {T : Int} {ov tf : Nat → Int32} {FV : FVt} {FJ : FJt} {go : Option S4} {gq : List S3} {GA : List A6} {mi : Nat → Int32} {ma : Nat → Nat → Int32} (h : BRq n FX T ov tf FV FJ go gq GA mi ma) (hj : j < n) : BRq n FX T ov tf (va_up FV j (fpk (FV j 0) (FV j 1) (FV j 2) (FV j 3) (FV j 4))) (va_up FJ j (fpj (FJ j 0) (FJ j 1) (FJ j 2))) go gq GA mi ma := recv_bench h hj (h.2.1 j hj).2.2 h.2.2.2 RFR_refl h.2.2.1
/-- a receiver answers, for the bench -/
theorem answer10 {ov rv : Nat → Int32} {ga : List A6} {n0 w0 sp t : Int32} {kf : Nat → Int64} : (xc_answer ov ga n0 w0 rv kf sp t).1 10 = rv 10 := by
  unfold xc_answer
  simp only [bd_eq]
  rw [upd_b (by decide), upd_b (by decide)]
theorem ans_bench {n j : Nat} {FX : Nat → Nat → Int32} {T : Int} {ov tf rv : Nat → Int32} {FV : FVt} {FJ : FJt} {go : Option S4} {gq : List S3} {GA : List A6} {mi m : Nat → Int32} {ma a1 a : Nat → Nat → Int32} {r sp pb : Int32} (h : BRq n FX T ov tf FV FJ go gq GA mi ma) (hj : j < n) (hV : RVq j (FX j 3) rv (FJ j 2) a1) (hA : AQ GA mi a1) (hR : RFR j mi ma mi a1) (hpb : pb = 0 ∨ pb = 1) (hsp : sp = 0 ↔ ¬ pb = 0) (hx : x_answer (nI j) pb mi a1 = some (m, a, r)) : ∃ rv2 GA2, xc_answer ov (srtA GA) (nI j) (FX j 3) rv (FJ j 2) sp (mi 4) = (rv2, FJ j 2, srtA GA2) ∧ BRq n FX T ov tf (va_up FV j (fpk (FV j 0) (FV j 1) (FV j 2) (FV j 3) rv2)) (va_up FJ j (fpj (FJ j 0) (FJ j 1) (FJ j 2))) go gq GA2 m a ∧ CFR mi ma m a ∧ rv2 10 = rv 10 := by
  have hn := h.1.1
  have hRR := h.2.2.1
  obtain ⟨rv2, e, y1, y2, y3, y4, y5, y6⟩ := answer_pair (show j < 4 by omega) (ov := ov) hV hA hpb hsp hRR.1.1.2.2.2 hx
  have hRt := RFR_trans hR y4
  refine ⟨rv2, GA ++ [e], y1, recv_bench h hj y2 y3 hRt (RR_cfr hRR (CFR_of hRt) y6), CFR_of hRt, ?_⟩
  have := answer10 (ov := ov) (rv := rv) (ga := srtA GA) (n0 := nI j) (w0 := FX j 3) (sp := sp) (t := mi 4) (kf := FJ j 2)
  rw [y1] at this
  exact this
theorem tw2 {n : Nat} {FX : Nat → Nat → Int32} {T : Int} {ov tf : Nat → Int32} {go : Option S4} {gq : List S3} {gw : List S4} : ∀ (d j fu : Nat) (FV : FVt) (FJ : FJt) (GA : List A6) (mi : Nat → Int32) (ma : Nat → Nat → Int32) (m : Nat → Int32) (a : Nat → Nat → Int32) (r : Int32), j + d = n → BRq n FX T ov tf FV FJ go gq GA mi ma → x_answers_43 fu mi ma (nI j) = some (m, a, r) → ∃ FV2 FJ2 GA2, xc_tw2 n FX (mi 4) d j ov tf FV FJ go gq gw (srtA GA) = (ov, tf, FV2, FJ2, go, gq, gw, srtA GA2) ∧ BRq n FX T ov tf FV2 FJ2 go gq GA2 m a ∧ CFR mi ma m a ∧ (∀ i, FV2 i 4 10 = FV i 4 10)
  | d, j, 0, FV, FJ, GA, mi, ma, m, a, r, hd, h, hx => by
    rw [x_answers_43] at hx
    cases hx
  | 0, j, fu + 1, FV, FJ, GA, mi, ma, m, a, r, hd, h, hx => by
    rw [x_answers_43] at hx
    simp only [bd_eq] at hx
    rw [h.1.2.1, show j = n by omega, if_pos (Int32.le_refl _)] at hx
    have hx := Option.some.inj hx
    have q1 : mi = m := congrArg Prod.fst hx
    have q2 : ma = a := congrArg (fun x => x.2.1) hx
    subst q1 q2
    rw [xc_tw2]
    exact ⟨FV, FJ, GA, rfl, h, CFR_refl, fun _ => rfl⟩
  | d + 1, j, fu + 1, FV, FJ, GA, mi, ma, m, a, r, hd, h, hx => by
    have hn := h.1.1
    have hj : j < n := by omega
    obtain ⟨q1, q2, q3⟩ := h.2.1 j hj
    have e9 : FV j 4 9 = ma 40 j := q3.2.2.2.2.2.2.2.1
    rw [x_answers_43] at hx
    simp only [bd_eq] at hx
    rw [h.1.2.1, if_neg (fun w => by have := (nIle (by omega) (by omega)).mp w; omega), nI_clamp (show j < 2 ^ 31 by omega), nI_1] at hx
    rw [xc_tw2]
    unfold xc_answerLate
    simp only [bd_eq]
    rw [e9, q1]
    by_cases c : ma 40 j = mi 4
    · rw [if_pos c] at hx ⊢
      obtain ⟨m', a', r', y1, y2⟩ := bo_some hx
      obtain ⟨rv2, GA2, z1, z2, z3, z4⟩ := ans_bench (sp := 0) h hj q3 h.2.2.2 RFR_refl (Or.inr rfl) ⟨fun _ => by decide, fun _ => rfl⟩ y1
      rw [z1]
      have m4 : m' 4 = mi 4 := z3.1 4 (by decide)
      obtain ⟨FV3, FJ3, GA3, v1, v2, v3, v4⟩ := tw2 (gw := gw) d (j + 1) fu _ _ GA2 m' a' m a r (by omega) z2 y2
      rw [m4] at v1
      refine ⟨FV3, FJ3, GA3, v1, v2, CFR_trans z3 v3, fun i => ?_⟩
      rw [v4 i]
      by_cases e : i = j
      · rw [e, va_up_self]
        exact z4
      · rw [va_up_ne _ _ e]
    · rw [if_neg c] at hx ⊢
      obtain ⟨FV3, FJ3, GA3, v1, v2, v3, v4⟩ := tw2 (gw := gw) d (j + 1) fu _ _ GA mi ma m a r (by omega) (BRq_pack h hj) hx
      refine ⟨FV3, FJ3, GA3, v1, v2, v3, fun i => ?_⟩
      rw [v4 i]
      by_cases e : i = j
      · rw [e, va_up_self]
        rfl
      · rw [va_up_ne _ _ e]
theorem tw1 {n : Nat} {FX : Nat → Nat → Int32} {T : Int} {ov tf : Nat → Int32} {go : Option S4} {gq : List S3} {gw : List S4} : ∀ (d j fu : Nat) (FV : FVt) (FJ : FJt) (GA : List A6) (mi : Nat → Int32) (ma : Nat → Nat → Int32) (m : Nat → Int32) (a : Nat → Nat → Int32) (r : Int32), j + d = n → BRq n FX T ov tf FV FJ go gq GA mi ma → x_answers_2 fu mi ma (nI j) = some (m, a, r) → ∃ FV2 FJ2 GA2, xc_tw1 n FX (mi 4) d j ov tf FV FJ go gq gw (srtA GA) = (ov, tf, FV2, FJ2, go, gq, gw, srtA GA2) ∧ BRq n FX T ov tf FV2 FJ2 go gq GA2 m a ∧ CFR mi ma m a ∧ (∀ i, i < n → (i < j → FV i 4 10 = 0) → FV2 i 4 10 = 0)
  | d, j, 0, FV, FJ, GA, mi, ma, m, a, r, hd, h, hx => by
    rw [x_answers_2] at hx
    cases hx
  | 0, j, fu + 1, FV, FJ, GA, mi, ma, m, a, r, hd, h, hx => by
    rw [x_answers_2] at hx
    simp only [bd_eq] at hx
    rw [h.1.2.1, show j = n by omega, if_pos (Int32.le_refl _)] at hx
    rw [xc_tw1]
    obtain ⟨FV3, FJ3, GA3, v1, v2, v3, v4⟩ := tw2 (gw := gw) n 0 5 FV FJ GA mi ma m a r (by omega) h (by rw [show nI 0 = (0 : Int32) by decide]; exact hx)
    exact ⟨FV3, FJ3, GA3, v1, v2, v3, fun i hi hz => by rw [v4 i]; exact hz (by omega)⟩
  | d + 1, j, fu + 1, FV, FJ, GA, mi, ma, m, a, r, hd, h, hx => by
    have hn := h.1.1
    have hj : j < n := by omega
    obtain ⟨q1, q2, q3⟩ := h.2.1 j hj
    have e10 : FV j 4 10 = 0 ↔ ma 41 j = 0 := q3.2.2.2.2.2.2.2.2.1
    rw [x_answers_2] at hx
    simp only [bd_eq] at hx
    rw [h.1.2.1, if_neg (fun w => by have := (nIle (by omega) (by omega)).mp w; omega), nI_clamp (show j < 2 ^ 31 by omega), nI_1] at hx
    rw [xc_tw1]
    unfold xc_tellWindow
    simp only [bd_eq]
    rw [q1]
    by_cases c : ma 41 j = 0
    · rw [if_pos c] at hx
      rw [if_pos (e10.mpr c)]
      obtain ⟨FV3, FJ3, GA3, v1, v2, v3, v4⟩ := tw1 (gw := gw) d (j + 1) fu _ _ GA mi ma m a r (by omega) (BRq_pack h hj) hx
      refine ⟨FV3, FJ3, GA3, v1, v2, v3, fun i hi hz => v4 i hi (fun hlt => ?_)⟩
      by_cases e : i = j
      · rw [e, va_up_self]
        exact e10.mpr c
      · rw [va_up_ne _ _ e]
        exact hz (by omega)
    · rw [if_neg c] at hx
      rw [if_neg (fun w => c (e10.mp w))]
      rw [show vp_nar .boolean (0 : Int32) = 0 from rfl] at hx
      obtain ⟨m', a', r', y1, y2⟩ := bo_some hx
      obtain ⟨a1, ha1⟩ : ∃ y, y = va_up ma 41 (upd (ma 41) j 0) := ⟨_, rfl⟩
      rw [← ha1] at y1
      have k1 : ∀ k, k ≠ 41 → a1 k = ma k := fun k hk => by rw [ha1]; exact va_up_ne _ _ hk
      have hV : RVq j (FX j 3) (upd (FV j 4) 10 0) (FJ j 2) a1 := by
        obtain ⟨r1, r2, r3, r4, r5, r6, r7, r8, r9, r10, r11, r12, r13, r14⟩ := q3
        unfold RVq
        simp (decide := true) only [upd_a, upd_b, ne_eq, not_false_eq_true]
        rw [k1 33 (by decide), k1 34 (by decide), k1 35 (by decide), k1 36 (by decide), k1 37 (by decide), k1 38 (by decide), k1 39 (by decide), k1 40 (by decide), k1 46 (by decide)]
        exact ⟨r1, r2, r3, r4, r5, r6, r7, r8, ⟨fun _ => by rw [ha1, va_up_self, upd_a], fun _ => trivial⟩, r10, r11, r12, r13, r14⟩
      have hA : AQ GA mi a1 := AQ_keep h.2.2.2 rfl rfl (fun k hk => k1 k (fun e => by rw [e] at hk; revert hk; decide)) (fun f => by rw [k1 46 (by decide)]; exact Int.le_refl _)
      have hRf : RFR j mi ma mi a1 := by
        rw [ha1]
        exact RFR_up (by decide) (by decide) (by decide)
      obtain ⟨rv2, GA2, z1, z2, z3, z4⟩ := ans_bench (sp := 1) h hj hV hA hRf (Or.inl rfl) ⟨fun w => absurd w (by decide), fun w => absurd rfl w⟩ y1
      rw [z1]
      have m4 : m' 4 = mi 4 := z3.1 4 (by decide)
      obtain ⟨FV3, FJ3, GA3, v1, v2, v3, v4⟩ := tw1 (gw := gw) d (j + 1) fu _ _ GA2 m' a' m a r (by omega) z2 y2
      rw [m4] at v1
      refine ⟨FV3, FJ3, GA3, v1, v2, CFR_trans z3 v3, fun i hi hz => v4 i hi (fun hlt => ?_)⟩
      by_cases e : i = j
      · rw [e, va_up_self]
        show rv2 10 = 0
        rw [z4, upd_a]
      · rw [va_up_ne _ _ e]
        exact hz (by omega)
theorem answers_pair {n : Nat} {FX : Nat → Nat → Int32} {T : Int} {ov tf : Nat → Int32} {FV : FVt} {FJ : FJt} {go : Option S4} {gq : List S3} {gw : List S4} {GA : List A6} {mi m : Nat → Int32} {ma a : Nat → Nat → Int32} {r : Int32} (h : BRq n FX T ov tf FV FJ go gq GA mi ma) (hx : x_answers mi ma = some (m, a, r)) : ∃ FV2 FJ2 GA2, xc_tellWindows n FX (mi 4) ov tf FV FJ go gq gw (srtA GA) = (ov, tf, FV2, FJ2, go, gq, gw, srtA GA2) ∧ BRq n FX T ov tf FV2 FJ2 go gq GA2 m a ∧ CFR mi ma m a ∧ (∀ i, i < n → a 41 i = 0) := by
  unfold x_answers at hx
  have hx := (ax_some hx).2
  unfold xc_tellWindows
  obtain ⟨FV3, FJ3, GA3, v1, v2, v3, v4⟩ := tw1 (gw := gw) n 0 5 FV FJ GA mi ma m a r (by omega) h (by rw [show nI 0 = (0 : Int32) by decide]; exact hx)
  refine ⟨FV3, FJ3, GA3, v1, v2, v3, fun i hi => ?_⟩
  have q : FV3 i 4 10 = 0 ↔ a 41 i = 0 := (v2.2.1 i hi).2.2.2.2.2.2.2.2.2.2.1
  exact q.mp (v4 i hi (fun w => by omega))

theorem bo_some {t : Option XT} {k : (Nat → Int32) → (Nat → Nat → Int32) → Int32 → Option XT} {x : XT} (h : bo t k = some x) : ∃ m a r, t = some (m, a, r) ∧ k m a r = some x := by
  cases t with
  | none => cases h
  | some y => exact ⟨y.1, y.2.1, y.2.2, rfl, h⟩
theorem t215 {F : Nat} (hF : F < 4) {w0 g pb i4 i5 j4 j5 j6 i7 : Int32} {pk : S4} {ov rv : Nat → Int32} {kf : Nat → Int64} {GA : List A6} {mi m : Nat → Int32} {ma a : Nat → Nat → Int32} {r : Int32} (h : RVq F w0 rv kf ma) (hA : AQ GA mi ma) (hpk : pk.2.2.2 = pb) (hpb : pb = 0 ∨ pb = 1) (hov : ov 3 = mi 3) (h7 : ¬ i7 = 0 ↔ (¬ ma 33 F = 0 ∧ ¬ i5 = 0 ∧ ¬ i4 = 0 ∧ cntK (fun i => ma 36 (200 * F + i)) 200 = 0 ∧ ma 40 F = -1)) (hx : x_receives_215 (nI F) g pb mi ma i4 i5 = some (m, a, r)) : ∃ rv2 GA2, xc_take_162 ov (srtA GA) (nI F) w0 pk (mi 4) rv kf j4 j5 j6 i7 = (rv2, kf, srtA GA2) ∧ RVq F w0 rv2 kf a ∧ AQ GA2 m a ∧ RFR F mi ma m a ∧ m 29 = mi 29 ∧ (GA2 = GA ∨ ∃ e, GA2 = GA ++ [e] ∧ e.1 = mi 4 + mi 3) := by
  have hF2 : (nI F).toNatClampNeg = F := nI_clamp (by omega)
  unfold x_receives_215 at hx
  simp only [bd_eq, hF2, x_keptMany_eq hF, bc_eq] at hx
  have hcz : nI (cntK (fun j => ma 36 (200 * F + j)) 200) = 0 ↔ cntK (fun i => ma 36 (200 * F + i)) 200 = 0 := by
    have l := cntK_le (fun i => ma 36 (200 * F + i)) 200
    constructor
    · intro w
      have := congrArg Int32.toInt w
      rw [nI_toInt (by omega), show (0 : Int32).toInt = 0 by decide] at this
      omega
    · intro w
      rw [w]
      decide
  have ans : ∀ (q : x_receives_215 (nI F) g pb mi ma i4 i5 = x_receives_215 (nI F) g pb mi ma i4 i5), i7 = 0 → (if pb = 0 then bo (x_answer (nI F) 1 mi ma) (fun m5 a6 _ => some (m5, a6, (0 : Int32))) else bo (x_answer (nI F) 0 mi ma) (fun m2 a3 _ => some (m2, a3, (0 : Int32)))) = some (m, a, r) → ∃ rv2 GA2, xc_take_162 ov (srtA GA) (nI F) w0 pk (mi 4) rv kf j4 j5 j6 i7 = (rv2, kf, srtA GA2) ∧ RVq F w0 rv2 kf a ∧ AQ GA2 m a ∧ RFR F mi ma m a ∧ m 29 = mi 29 ∧ (GA2 = GA ∨ ∃ e, GA2 = GA ++ [e] ∧ e.1 = mi 4 + mi 3) := by
    intro _ h70 hy
    have key : ∃ m' a' r' pl, (pl = 0 ∨ pl = 1) ∧ (pb = 0 ↔ ¬ pl = 0) ∧ x_answer (nI F) pl mi ma = some (m', a', r') ∧ some (m', a', (0 : Int32)) = some (m, a, r) := by
      by_cases c : pb = 0
      · rw [if_pos c] at hy
        obtain ⟨m', a', r', y1, y2⟩ := bo_some hy
        exact ⟨m', a', r', 1, Or.inr rfl, ⟨fun _ => by decide, fun _ => c⟩, y1, y2⟩
      · rw [if_neg c] at hy
        obtain ⟨m', a', r', y1, y2⟩ := bo_some hy
        exact ⟨m', a', r', 0, Or.inl rfl, ⟨fun w => absurd w c, fun w => absurd rfl w⟩, y1, y2⟩
    obtain ⟨m', a', r', pl, p1, p2, p3, p4⟩ := key
    have p4 := Option.some.inj p4
    have q1 : m' = m := congrArg Prod.fst p4
    have q2 : a' = a := congrArg (fun x => x.2.1) p4
    subst q1 q2
    obtain ⟨rv2, e, y1, y2, y3, y4, y5, m29⟩ := answer_pair hF (sp := pb) h hA p1 p2 hov p3
    refine ⟨rv2, GA ++ [e], ?_, y2, y3, y4, m29, Or.inr ⟨e, rfl, y5⟩⟩
    unfold xc_take_162
    rw [if_pos h70]
    simp only [bd_eq]
    rw [hpk, y1]
  by_cases c1 : ma 33 F = 0
  · rw [if_pos c1] at hx
    exact ans rfl (Classical.byContradiction fun w => (h7.mp w).1 c1) hx
  · rw [if_neg c1] at hx
    by_cases c2 : i5 = 0
    · rw [if_pos c2] at hx
      exact ans rfl (Classical.byContradiction fun w => (h7.mp w).2.1 c2) hx
    · rw [if_neg c2] at hx
      by_cases c3 : i4 = 0
      · rw [if_pos c3] at hx
        exact ans rfl (Classical.byContradiction fun w => (h7.mp w).2.2.1 c3) hx
      · rw [if_neg c3] at hx
        by_cases c4 : cntK (fun i => ma 36 (200 * F + i)) 200 = 0
        · rw [if_pos (hcz.mpr c4)] at hx
          by_cases c5 : ma 40 F = -1
          · rw [if_pos c5] at hx
            have h70 : ¬ i7 = 0 := h7.mpr ⟨c1, c2, c3, c4, c5⟩
            have hx := Option.some.inj hx
            have q1 : mi = m := congrArg Prod.fst hx
            have q2 : va_up ma 40 (upd (ma 40) F (mi 4 + 100)) = a := congrArg (fun x => x.2.1) hx
            subst q1
            refine ⟨upd rv 9 (mi 4 + 100), GA, ?_, ?_, ?_, ?_, rfl, Or.inl rfl⟩
            · unfold xc_take_162
              rw [if_neg h70]
              simp only [bd_eq]
            · rw [← q2]
              obtain ⟨r1, r2, r3, r4, r5, r6, r7, r8, r9, r10, r11, r12, r13, r14⟩ := h
              unfold RVq
              simp (decide := true) only [upd_a, upd_b, va_up_self, va_up_ne, ne_eq, not_false_eq_true]
              exact ⟨r1, r2, r3, r4, r5, r6, r7, by first | trivial | rfl, r9, r10, r11, r12, r13, r14⟩
            · rw [← q2]
              exact AQ_keep hA rfl rfl (fun k hk => va_up_ne _ _ (fun e => by rw [e] at hk; revert hk; decide)) (fun f => by rw [va_up_ne _ _ (by decide)]; exact Int.le_refl _)
            · rw [← q2]
              exact RFR_up (by decide) (by decide) (by decide)
          · rw [if_neg c5] at hx
            exact ans rfl (Classical.byContradiction fun w => c5 (h7.mp w).2.2.2.2) hx
        · rw [if_neg (fun w => c4 (hcz.mp w))] at hx
          exact ans rfl (Classical.byContradiction fun w => c4 (h7.mp w).2.2.2.1) hx
theorem RVq_of {F : Nat} {w0 : Int32} {rv : Nat → Int32} {kf : Nat → Int64} {ma : Nat → Nat → Int32} (h : RK F rv kf ma) (h0 : ma 36 (200 * F) = 0) (h1 : rv 1 = 0 ↔ ma 33 F = 0) (h3 : w0 = ma 35 F) (h5 : rv 6 = ma 37 F) (h6 : rv 7 = ma 38 F) (h7 : rv 8 = ma 39 F) (h8 : rv 9 = ma 40 F) (h9 : rv 10 = 0 ↔ ma 41 F = 0) : RVq F w0 rv kf ma := by
  obtain ⟨a1, a2, a3, a4, a5, a6, a7, a8⟩ := h
  exact ⟨h1, a1, h3, a2, h5, h6, h7, h8, h9, a3, h0, a4, a5, a6⟩
/-- one segment comes to its receiver -/
theorem take_pair {F : Nat} (hF : F < 4) {w0 g pb : Int32} {pk : S4} {ov rv : Nat → Int32} {kf : Nat → Int64} {GA : List A6} {mi m : Nat → Int32} {ma a : Nat → Nat → Int32} {r : Int32} (h : RVq F w0 rv kf ma) (hA : AQ GA mi ma) (hpk : pk.2.2 = (g, pb)) (hpb : pb = 0 ∨ pb = 1) (hov : ov 3 = mi 3) (hg : g.toInt < (ma 46 F).toInt) (hx : x_receives (nI F) g pb mi ma = some (m, a, r)) : ∃ rv2 kf2 GA2, xc_take ov (srtA GA) (nI F) w0 rv kf (mi 4) pk = (rv2, kf2, srtA GA2) ∧ RVq F w0 rv2 kf2 a ∧ AQ GA2 m a ∧ RFR F mi ma m a ∧ m 29 = mi 29 + 1 ∧ (GA2 = GA ∨ ∃ e, GA2 = GA ++ [e] ∧ e.1 = mi 4 + mi 3) := by
  unfold x_receives at hx
  obtain ⟨⟨hMB, _, hg0, hg1⟩, hx⟩ := ax_some hx
  have hF2 : (nI F).toNatClampNeg = F := nI_clamp (by omega)
  have hpn : pk.2.2.1 = g := congrArg Prod.fst hpk
  have hps : pk.2.2.2 = pb := congrArg Prod.snd hpk
  obtain ⟨r1, r2, r3, r4, r5, r6, r7, r8, r9, r10, r11, r12, r13, r14⟩ := h
  have hwa := MB_wanted hMB F hF
  have hhi := MB_high hMB F hF
  have hwi := MB_window hMB F hF
  -- the counters
  obtain ⟨m1, hm1⟩ : ∃ y, y = upd mi 29 (mi 29 + 1) := ⟨_, rfl⟩
  obtain ⟨a1, ha1⟩ : ∃ y, y = va_up ma 38 (upd (ma 38) F (ma 38 F + 1)) := ⟨_, rfl⟩
  have k1 : ∀ k, k ≠ 38 → a1 k = ma k := fun k e => by rw [ha1, va_up_ne _ _ e]
  have k38 : a1 38 F = ma 38 F + 1 := by rw [ha1, va_up_self, upd_a]
  have e36 : a1 36 = ma 36 := k1 36 (by decide)
  have hR1 : RFR F mi ma m1 a1 := ⟨fun k hk => by rw [hm1]; exact upd_b (fun e => hk (by rw [e]; decide)), by rw [ha1]; exact (RFR_up (mi := mi) (F := F) (k := 38) (by decide) (by decide) (by decide)).2⟩
  have hA1 : AQ GA m1 a1 := AQ_keep hA (by rw [hm1]; exact upd_b (by decide)) (by rw [hm1]; exact upd_b (by decide)) (fun k hk => k1 k (fun e => by rw [e] at hk; revert hk; decide)) (fun f => by rw [k1 46 (by decide)]; exact Int.le_refl _)
  have m4 : m1 4 = mi 4 := by rw [hm1]; exact upd_b (by decide)
  have m3 : m1 3 = mi 3 := by rw [hm1]; exact upd_b (by decide)
  have m29 : m1 29 = mi 29 + 1 := by rw [hm1]; exact upd_a
  simp only [bd_eq, hF2] at hx
  rw [← hm1, ← ha1, x_keptMany_eq hF, bc_eq] at hx
  rw [e36] at hx
  obtain ⟨rvc, hrc⟩ : ∃ y, y = upd rv 7 (rv 7 + 1) := ⟨_, rfl⟩
  have kc : ∀ k, k ≠ 7 → rvc k = rv k := fun k e => by rw [hrc]; exact upd_b e
  have kc7 : rvc 7 = rv 7 + 1 := by rw [hrc]; exact upd_a
  have hRK1 : RK F rvc kf a1 := by
    refine ⟨by rw [kc 2 (by decide), k1 34 (by decide)]; exact r2, by rw [kc 5 (by decide), e36]; exact r4, by rw [k1 34 (by decide), e36]; exact r10, by rw [e36]; exact r12, by rw [k1 34 (by decide), e36, k1 46 (by decide)]; exact r13, by rw [k1 34 (by decide), k1 46 (by decide)]; exact r14, by rw [k1 34 (by decide)]; exact hwa.1, by rw [k1 46 (by decide)]; exact hhi.2⟩
  have d0 : (g - ma 34 F).toInt = g.toInt - (ma 34 F).toInt := ti_sub (x := g - ma 34 F) rfl (by omega) (by omega)
  have ew : (ma 34 F + ma 35 F).toInt = (ma 34 F).toInt + (ma 35 F).toInt := ti_add (x := ma 34 F + ma 35 F) rfl (by omega) (by omega)
  -- none was kept before
  obtain ⟨i4, hi4⟩ : ∃ y : Int32, y = (if cntK (fun i => ma 36 (200 * F + i)) 200 = 0 then 1 else 0) := ⟨_, rfl⟩
  have hi4' : ¬ i4 = 0 ↔ cntK (fun i => ma 36 (200 * F + i)) 200 = 0 := by
    rw [hi4]
    by_cases c : cntK (fun i => ma 36 (200 * F + i)) 200 = 0
    · rw [if_pos c]
      exact ⟨fun _ => c, fun _ => by decide⟩
    · rw [if_neg c]
      exact ⟨fun w => absurd rfl w, fun w => absurd w c⟩
  have hcz : nI (cntK (fun j => ma 36 (200 * F + j)) 200) = 0 ↔ cntK (fun i => ma 36 (200 * F + i)) 200 = 0 := by
    have l := cntK_le (fun i => ma 36 (200 * F + i)) 200
    constructor
    · intro w
      have := congrArg Int32.toInt w
      rw [nI_toInt (by omega), show (0 : Int32).toInt = 0 by decide] at this
      omega
    · intro w
      rw [w]
      decide
  -- the reference's ways, with i4 in place of the two
  have hx2 : (if g - ma 34 F < 0 then x_receives_215 (nI F) g pb m1 (va_up a1 39 (upd (a1 39) F (a1 39 F + 1))) i4 0 else if ma 35 F ≤ g - ma 34 F then x_receives_215 (nI F) g pb m1 (va_up a1 39 (upd (a1 39) F (a1 39 F + 1))) i4 0 else if a1 36 (200 * nI F + (g - ma 34 F)).toNatClampNeg = 0 then (if g - ma 34 F ≤ 0 then x_receives_r (nI F) g pb 1000003000 129 m1 (va_up a1 36 (upd (a1 36) (200 * nI F).toNatClampNeg 1)) i4 0 else x_receives_215 (nI F) g pb m1 (va_up a1 36 (upd (a1 36) (200 * nI F + (g - ma 34 F)).toNatClampNeg 1)) i4 0) else x_receives_215 (nI F) g pb m1 (va_up a1 39 (upd (a1 39) F (a1 39 F + 1))) i4 0) = some (m, a, r) := by
    rw [hi4]
    rw [k1 34 (by decide), k1 35 (by decide)] at hx
    by_cases c : cntK (fun i => ma 36 (200 * F + i)) 200 = 0
    · rw [if_pos (hcz.mpr c)] at hx
      rw [if_pos c, e36]
      exact hx
    · rw [if_neg (fun w => c (hcz.mp w))] at hx
      rw [if_neg c, e36]
      exact hx
  clear hx
  unfold xc_take
  simp only [bd_eq]
  rw [hpn, r2]
  -- what the class does with one that is of no use
  have useless : ∀ (i7 j4 j5 j6 : Int32), i7 = 0 → x_receives_215 (nI F) g pb m1 (va_up a1 39 (upd (a1 39) F (a1 39 F + 1))) i4 0 = some (m, a, r) → ∃ rv2 kf2 GA2, xc_take_152 ov (srtA GA) (nI F) w0 pk (mi 4) rvc kf j4 j5 j6 i7 = (rv2, kf2, srtA GA2) ∧ RVq F w0 rv2 kf2 a ∧ AQ GA2 m a ∧ RFR F mi ma m a ∧ m 29 = mi 29 + 1 ∧ (GA2 = GA ∨ ∃ e, GA2 = GA ++ [e] ∧ e.1 = mi 4 + mi 3) := by
    intro i7 j4 j5 j6 h7 hy
    have hV : RVq F w0 (upd rvc 8 (rvc 8 + 1)) kf (va_up a1 39 (upd (a1 39) F (a1 39 F + 1))) := by
      refine RVq_of ?_ ?_ ?_ ?_ ?_ ?_ ?_ ?_ ?_
      · obtain ⟨z1, z2, z3, z4, z5, z6, z7, z8⟩ := hRK1
        unfold RK
        simp (decide := true) only [upd_b, va_up_ne, ne_eq, not_false_eq_true]
        exact ⟨z1, z2, z3, z4, z5, z6, z7, z8⟩
      · rw [va_up_ne _ _ (by decide), e36]
        exact r11
      · rw [upd_b (by decide), kc 1 (by decide), va_up_ne _ _ (by decide), k1 33 (by decide)]
        exact r1
      · rw [va_up_ne _ _ (by decide), k1 35 (by decide)]
        exact r3
      · rw [upd_b (by decide), kc 6 (by decide), va_up_ne _ _ (by decide), k1 37 (by decide)]
        exact r5
      · rw [upd_b (by decide), kc7, va_up_ne _ _ (by decide), k38, r6]
      · rw [upd_a, va_up_self, upd_a, kc 8 (by decide), k1 39 (by decide), r7]
      · rw [upd_b (by decide), kc 9 (by decide), va_up_ne _ _ (by decide), k1 40 (by decide)]
        exact r8
      · rw [upd_b (by decide), kc 10 (by decide), va_up_ne _ _ (by decide), k1 41 (by decide)]
        exact r9
    have hAV : AQ GA m1 (va_up a1 39 (upd (a1 39) F (a1 39 F + 1))) := AQ_keep hA1 rfl rfl (fun k hk => va_up_ne _ _ (fun e => by rw [e] at hk; revert hk; decide)) (fun f => by rw [va_up_ne _ _ (by decide)]; exact Int.le_refl _)
    obtain ⟨rv2, GA2, y1, y2, y3, y4, y5, y6⟩ := t215 hF (pk := pk) (ov := ov) (j4 := j4) (j5 := j5) (j6 := j6) (i7 := i7) hV hAV hps hpb (by rw [m3]; exact hov) ⟨fun w => absurd h7 w, fun w => absurd rfl w.2.1⟩ hy
    unfold xc_take_152
    simp only [bd_eq]
    rw [m4] at y1 y6
    rw [m3] at y6
    rw [y1]
    exact ⟨rv2, kf, GA2, rfl, y2, y3, RFR_trans (RFR_trans hR1 (RFR_up (by decide) (by decide) (by decide))) y4, by rw [y5]; exact m29, y6⟩
  have h55 : ∀ (j4 j5 : Int32), xc_take_55 ov (srtA GA) (nI F) w0 pk (mi 4) rv kf j4 j5 0 = xc_take_89 ov (srtA GA) (nI F) w0 pk (mi 4) rv kf j4 j5 0 0 := by
    intro j4 j5
    unfold xc_take_55 xc_take_88
    simp only [bd_eq]
    by_cases c : rv 1 = 0
    · rw [if_pos c]
    · rw [if_neg c]
      simp only [↓reduceIte]
  have h33 : xc_take_33 ov (srtA GA) (nI F) w0 pk (mi 4) rv kf g = xc_take_152 ov (srtA GA) (nI F) w0 pk (mi 4) rvc kf g 0 0 0 := by
    unfold xc_take_33 xc_take_34 xc_take_54
    rw [if_pos rfl, h55]
    unfold xc_take_89
    simp only [bd_eq, ↓reduceIte]
    rw [hrc]
  by_cases c1 : g < ma 34 F
  · have c1i := Int32.lt_iff_toInt_lt.mp c1
    rw [if_pos (show g - ma 34 F < 0 from Int32.lt_iff_toInt_lt.mpr (by rw [d0, show (0 : Int32).toInt = 0 by decide]; omega))] at hx2
    rw [if_pos c1, h33]
    exact useless 0 g 0 0 rfl hx2
  · have c1i := Int32.le_iff_toInt_le.mp (Int32.not_lt.mp c1)
    rw [if_neg (show ¬ g - ma 34 F < 0 from fun w => by
      have := Int32.lt_iff_toInt_lt.mp w
      rw [d0, show (0 : Int32).toInt = 0 by decide] at this
      omega)] at hx2
    rw [if_neg c1]
    by_cases c2 : ma 34 F + ma 35 F ≤ g
    · have c2i := Int32.le_iff_toInt_le.mp c2
      rw [if_pos (show ma 35 F ≤ g - ma 34 F from Int32.le_iff_toInt_le.mpr (by omega))] at hx2
      rw [if_pos (show ma 34 F + w0 ≤ g by rw [r3]; exact c2), h33]
      exact useless 0 g 0 0 rfl hx2
    · have c2i := Int32.lt_iff_toInt_lt.mp (Int32.not_le.mp c2)
      rw [if_neg (show ¬ ma 35 F ≤ g - ma 34 F from fun w => by
        have := Int32.le_iff_toInt_le.mp w
        omega)] at hx2
      rw [if_neg (show ¬ ma 34 F + w0 ≤ g by rw [r3]; exact c2)]
      obtain ⟨D, hD⟩ : ∃ D, D = (g.toInt - (ma 34 F).toInt).toNat := ⟨_, rfl⟩
      have eD : g - ma 34 F = nI D := by
        apply Int32.toInt_inj.mp
        rw [d0, nI_toInt (by omega)]
        omega
      have hDl : D < 200 := by omega
      have eg : g = nI ((ma 34 F).toInt.toNat + D) := by
        apply Int32.toInt_inj.mp
        rw [nI_toInt (by omega)]
        omega
      have ix : (200 * nI F + (g - ma 34 F)).toNatClampNeg = 200 * F + D := by
        rw [eD, mul200 hF, nI_add, nI_clamp (by omega)]
      have ix0 : (200 * nI F).toNatClampNeg = 200 * F := by
        rw [mul200 hF, nI_clamp (by omega)]
      rw [ix, ix0, e36] at hx2
      have hkb : bt4 kf ((ma 34 F).toInt.toNat + D) = true ↔ ¬ ma 36 (200 * F + D) = 0 := r10.1 D hDl
      unfold xc_take_34
      rw [if_neg (show ¬ (1 : Int32) = 0 by decide)]
      simp only [bd_eq]
      by_cases c3 : ma 36 (200 * F + D) = 0
      · rw [if_pos c3] at hx2
        by_cases c4 : g - ma 34 F ≤ 0
        · -- it is the next one
          have c4i := Int32.le_iff_toInt_le.mp c4
          rw [d0, show (0 : Int32).toInt = 0 by decide] at c4i
          have egn : g = rv 2 := by
            rw [r2]
            exact Int32.toInt_inj.mp (by omega)
          rw [if_pos c4] at hx2
          rw [if_pos egn]
          obtain ⟨a2, ha2⟩ : ∃ y, y = va_up a1 36 (upd (ma 36) (200 * F) 1) := ⟨_, rfl⟩
          rw [← ha2] at hx2
          have z36 : ∀ j, a2 36 j = if j = 200 * F then 1 else ma 36 j := fun j => by
            rw [ha2, va_up_self]
            by_cases e : j = 200 * F
            · rw [if_pos e, e, upd_a]
            · rw [if_neg e, upd_b e]
          have zk : ∀ k, k ≠ 36 → a2 k = a1 k := fun k e => by rw [ha2, va_up_ne _ _ e]
          have hsA : ∀ j, shA F a2 36 j = shA F a1 36 j := by
            intro j
            unfold shA shf
            rw [va_up_ne _ _ (show (36 : Nat) ≠ 34 by decide), va_up_self, va_up_ne _ _ (show (36 : Nat) ≠ 34 by decide), va_up_self]
            by_cases q : 200 * F + 0 ≤ j ∧ j < 200 * F + 199
            · rw [if_pos q, if_pos q, z36, if_neg (by omega), e36]
            · rw [if_neg q, if_neg q]
              by_cases q2 : j = 200 * F + 199
              · rw [if_pos q2, if_pos q2]
              · rw [if_neg q2, if_neg q2, z36, if_neg (by omega), e36]
          have hs34 : shA F a2 34 = shA F a1 34 := by
            unfold shA
            rw [va_up_self, va_up_self, zk 34 (by decide)]
          have h01 : ∀ i, i < 200 → a2 36 (200 * F + i) = 0 ∨ a2 36 (200 * F + i) = 1 := fun i hi => by
            rw [z36]
            by_cases q : 200 * F + i = 200 * F
            · rw [if_pos q]
              exact Or.inr rfl
            · rw [if_neg q]
              exact r12 i hi
          -- the first step: the next one itself
          have hlt : (a1 34 F).toInt < (a1 46 F).toInt := by
            rw [k1 34 (by decide), k1 46 (by decide)]
            omega
          have hcn : cntK (fun i => a1 36 (200 * F + i)) 200 = cntK (fun i => ma 36 (200 * F + i)) 200 + (if a1 36 (200 * F) = 0 then 0 else 1) := by
            rw [e36, if_pos r11]
            exact (Nat.add_zero _).symm
          have hb0 : bt4 kf (ma 34 F).toInt.toNat = false := by
            have q := r10.1 0 (by omega)
            have q2 : bt4 kf (ma 34 F).toInt.toNat = true ↔ ¬ ma 36 (200 * F) = 0 := q
            exact ts_nt (fun w => q2.mp w r11)
          have hs1 := RK_shift (kf2 := kf) (c := cntK (fun i => ma 36 (200 * F + i)) 200) hRK1 hlt (fun m => by
            rw [k1 34 (by decide)]
            by_cases q : m % 256 = (ma 34 F).toInt.toNat % 256
            · rw [if_pos q, bt4_mod q]
              exact hb0
            · rw [if_neg q]) hcn
          obtain ⟨c, hc⟩ : ∃ c, c = cntK (fun i => ma 36 (200 * F + i)) 200 := ⟨_, rfl⟩
          have hcl : c ≤ 200 := by rw [hc]; exact cntK_le _ _
          have e5 : upd (upd rvc 2 (rvc 2 + 1)) 5 (nI (cntK (fun i => ma 36 (200 * F + i)) 200)) = upd rvc 2 (rvc 2 + 1) := by
            have : nI (cntK (fun i => ma 36 (200 * F + i)) 200) = upd rvc 2 (rvc 2 + 1) 5 := by
              rw [upd_b (by decide), kc 5 (by decide), r4]
            rw [this, upd_c]
          rw [e5] at hs1
          have hcs : cntK (fun i => shA F a1 36 (200 * F + i)) 200 = c := by
            have q := hs1.2.1
            rw [upd_b (by decide), kc 5 (by decide), r4, ← hc] at q
            have q2 := congrArg Int32.toInt q
            have l := cntK_le (fun i => shA F a1 36 (200 * F + i)) 200
            rw [nI_toInt (by omega), nI_toInt (by omega)] at q2
            omega
          obtain ⟨fu, hfu⟩ : ∃ fu, fu = 1000003000 - 201 := ⟨_, rfl⟩
          have hr : x_receives_r (nI F) g pb 1000003000 129 m1 a2 i4 0 = x_receives_r (nI F) g pb fu 129 m1 (shA F a2) i4 0 := by
            have hr1 := r145 hF (g := g) (pb := pb) (i4 := i4) (mi := m1) (fu := fu) 199 0 a2 (by omega) h01
            rw [show nI 0 = (0 : Int32) by decide] at hr1
            have hstep : ∀ n, x_receives_r (nI F) g pb (n + 1) 129 m1 a2 i4 0 = x_receives_r (nI F) g pb n 145 m1 a2 i4 0 := by
              intro n
              rw [x_receives_r, if_pos rfl]
              simp only [bd_eq]
              rw [ix0, z36, if_pos rfl, if_neg (show ¬ (1 : Int32) = 0 by decide)]
            rw [show (1000003000 : Nat) = (fu + 199 + 1) + 1 by omega, hstep, hr1]
            rfl
          rw [hr] at hx2
          have hRK2 : RK F (upd rvc 2 (rvc 2 + 1)) kf (shA F a2) := by
            obtain ⟨z1, z2, z3, z4, z5, z6, z7, z8⟩ := hs1
            have f36 : shA F a2 36 = shA F a1 36 := funext hsA
            have f46 : shA F a2 46 = shA F a1 46 := by rw [shA_k (by decide) (by decide), shA_k (by decide) (by decide), zk 46 (by decide)]
            unfold RK
            rw [f36, hs34, f46]
            exact ⟨z1, z2, z3, z4, z5, z6, z7, z8⟩
          have hcs2 : cntK (fun i => shA F a2 36 (200 * F + i)) 200 = c := by
            rw [← hcs]
            exact cntK_congr (fun i _ => hsA _)
          obtain ⟨rv3, kf3, a3, x1, x2, x3, x4, x5, x6, x7, x8⟩ := rgo_go hF (g := g) (pb := pb) (i4 := i4) (w0 := w0) (mi := m1) (c + 1) c fu _ _ _ hRK2 hcs2 (by omega) (by omega)
          rw [x1] at hx2
          have ak : ∀ k, k ≠ 36 → k ≠ 34 → a3 k = a1 k := fun k q1 q2 => by rw [x6 k q1 q2, shA_k q1 q2, zk k q1]
          have hV : RVq F w0 rv3 kf3 a3 := by
            refine RVq_of x3 x4 ?_ ?_ ?_ ?_ ?_ ?_ ?_
            · rw [x7 1 (by decide) (by decide), upd_b (by decide), kc 1 (by decide), ak 33 (by decide) (by decide), k1 33 (by decide)]
              exact r1
            · rw [ak 35 (by decide) (by decide), k1 35 (by decide)]
              exact r3
            · rw [x7 6 (by decide) (by decide), upd_b (by decide), kc 6 (by decide), ak 37 (by decide) (by decide), k1 37 (by decide)]
              exact r5
            · rw [x7 7 (by decide) (by decide), upd_b (by decide), kc7, ak 38 (by decide) (by decide), k38, r6]
            · rw [x7 8 (by decide) (by decide), upd_b (by decide), kc 8 (by decide), ak 39 (by decide) (by decide), k1 39 (by decide)]
              exact r7
            · rw [x7 9 (by decide) (by decide), upd_b (by decide), kc 9 (by decide), ak 40 (by decide) (by decide), k1 40 (by decide)]
              exact r8
            · rw [x7 10 (by decide) (by decide), upd_b (by decide), kc 10 (by decide), ak 41 (by decide) (by decide), k1 41 (by decide)]
              exact r9
          have hAV : AQ GA m1 a3 := AQ_keep hA1 rfl rfl (fun k hk => ak k (fun e => by rw [e] at hk; revert hk; decide) (fun e => by rw [e] at hk; revert hk; decide)) (fun f => by rw [ak 46 (by decide) (by decide)]; exact Int.le_refl _)
          have hRa : RFR F mi ma m1 a3 := by
            refine RFR_trans hR1 (RFR_trans (m := m1) (a := a2) ⟨fun _ _ => rfl, fun k i hk hi => ?_⟩ (RFR_trans shA_RFR x5))
            by_cases e : k = 36
            · rw [e, z36, if_neg (by omega), e36]
            · rw [zk k e]
          obtain ⟨i7, hi7⟩ : ∃ y : Int32, y = (if ¬ ma 33 F = 0 ∧ c = 0 ∧ ma 40 F = -1 then 1 else 0) := ⟨_, rfl⟩
          have hflag : ¬ i7 = 0 ↔ (¬ a3 33 F = 0 ∧ ¬ (1 : Int32) = 0 ∧ ¬ i4 = 0 ∧ cntK (fun i => a3 36 (200 * F + i)) 200 = 0 ∧ a3 40 F = -1) := by
            rw [ak 33 (by decide) (by decide), k1 33 (by decide), ak 40 (by decide) (by decide), k1 40 (by decide), hi4', ← hc, hi7]
            by_cases q : ¬ ma 33 F = 0 ∧ c = 0 ∧ ma 40 F = -1
            · rw [if_pos q]
              exact ⟨fun _ => ⟨q.1, by decide, q.2.1, x8 q.2.1, q.2.2⟩, fun _ => by decide⟩
            · rw [if_neg q]
              exact ⟨fun w => absurd rfl w, fun w => absurd ⟨w.1, w.2.2.1, w.2.2.2.2⟩ q⟩
          obtain ⟨rv4, GA2, y1, y2, y3, y4, y5, y6⟩ := t215 hF (pk := pk) (ov := ov) (j4 := g) (j5 := 1) (j6 := 1) (i7 := i7) hV hAV hps hpb (by rw [m3]; exact hov) hflag hx2
          have hcls : xc_take_55 ov (srtA GA) (nI F) w0 pk (mi 4) rv kf g 1 1 = xc_take_89 ov (srtA GA) (nI F) w0 pk (mi 4) rv kf g 1 1 i7 := by
            unfold xc_take_55 xc_take_88
            simp only [bd_eq]
            rw [if_neg (show ¬ (1 : Int32) = 0 by decide), r4, r8, hi7]
            have hz5 : nI (cntK (fun i => ma 36 (200 * F + i)) 200) = 0 ↔ c = 0 := by rw [hc]; exact hcz
            by_cases q1 : ma 33 F = 0
            · rw [if_pos (r1.mpr q1), if_neg (fun w => w.1 q1)]
            · rw [if_neg (fun w => q1 (r1.mp w))]
              by_cases q2 : c = 0
              · rw [if_pos (hz5.mpr q2)]
                by_cases q3 : ma 40 F = -1
                · rw [if_pos q3, if_pos ⟨q1, q2, q3⟩]
                · rw [if_neg q3, if_neg (fun w => q3 w.2.2)]
              · rw [if_neg (fun w => q2 (hz5.mp w)), if_neg (fun w => q2 w.2.1)]
          rw [hcls]
          unfold xc_take_89
          simp only [bd_eq]
          rw [if_neg (show ¬ (1 : Int32) = 0 by decide), ← hrc]
          have hrg : xc_rgoOn (nI F) w0 rvc kf = (rv3, kf3) := by
            unfold xc_rgoOn
            simp only [bd_eq]
            have f5 : (upd rvc 2 (rvc 2 + 1) 5).toInt.toNat + 1 = c + 1 := by
              rw [upd_b (by decide), kc 5 (by decide), r4, ← hc, nI_toInt (by omega)]
              rfl
            rw [f5]
            exact x2
          rw [hrg]
          rw [m4] at y1 y6
          rw [m3] at y6
          refine ⟨rv4, kf3, GA2, ?_, y2, y3, RFR_trans hRa y4, by rw [y5]; exact m29, y6⟩
          exact y1
        · -- it is kept
          have c4i : ¬ (g - ma 34 F).toInt ≤ (0 : Int32).toInt := fun w => c4 (Int32.le_iff_toInt_le.mpr w)
          rw [d0, show (0 : Int32).toInt = 0 by decide] at c4i
          rw [if_neg c4] at hx2
          have hne : ¬ g = rv 2 := fun w => by
            have := congrArg Int32.toInt w
            rw [r2] at this
            omega
          rw [if_neg hne]
          unfold xc_take_54
          rw [h55]
          unfold xc_take_89
          simp (decide := true) only [bd_eq, ↓reduceIte]
          rw [← hrc]
          have hbf : ¬ bt4 kf ((ma 34 F).toInt.toNat + D) = true := fun w => hkb.mp w c3
          rw [show xc_has kf g = (kf, 0) by rw [eg, xc_has_eq (by omega), if_neg hbf]]
          simp (decide := true) only [↓reduceIte]
          obtain ⟨a2, ha2⟩ : ∃ y, y = va_up a1 36 (upd (ma 36) (200 * F + D) 1) := ⟨_, rfl⟩
          rw [← ha2] at hx2
          have z36 : ∀ j, a2 36 j = if j = 200 * F + D then 1 else ma 36 j := fun j => by
            rw [ha2, va_up_self]
            by_cases e : j = 200 * F + D
            · rw [if_pos e, e, upd_a]
            · rw [if_neg e, upd_b e]
          have zk : ∀ k, k ≠ 36 → a2 k = a1 k := fun k e => by rw [ha2, va_up_ne _ _ e]
          have hne2 : ∀ i, i ≠ D → (fun i => a2 36 (200 * F + i)) i = (fun i => ma 36 (200 * F + i)) i := fun i hi => by
            show a2 36 (200 * F + i) = ma 36 (200 * F + i)
            rw [z36, if_neg (by omega)]
          have heq : ¬ (fun i => a2 36 (200 * F + i)) D = 0 := by
            show ¬ a2 36 (200 * F + D) = 0
            rw [z36, if_pos rfl]
            decide
          have hcp : cntK (fun i => a2 36 (200 * F + i)) 200 = cntK (fun i => ma 36 (200 * F + i)) 200 + 1 := cntK_put (A := fun i => ma 36 (200 * F + i)) (B := fun i => a2 36 (200 * F + i)) (j := D) c3 heq hne2 hDl
          have hV : RVq F w0 (upd rvc 5 (rvc 5 + 1)) (xc_put kf g) a2 := by
            refine RVq_of ⟨?_, ?_, ?_, fun i hi => ?_, fun i hi w => ?_, ?_, ?_, ?_⟩ ?_ ?_ ?_ ?_ ?_ ?_ ?_ ?_
            · rw [upd_b (by decide), kc 2 (by decide), zk 34 (by decide), k1 34 (by decide)]
              exact r2
            · rw [upd_a, kc 5 (by decide), r4, nI_1, hcp]
            · rw [zk 34 (by decide), k1 34 (by decide), eg]
              refine KQ_put r10 (by omega) (by omega) (by omega) ?_ ?_
              · rw [show (ma 34 F).toInt.toNat + D - (ma 34 F).toInt.toNat = D by omega]
                exact heq
              · rw [show (ma 34 F).toInt.toNat + D - (ma 34 F).toInt.toNat = D by omega]
                exact hne2
            · rw [z36]
              by_cases q : 200 * F + i = 200 * F + D
              · rw [if_pos q]
                exact Or.inr rfl
              · rw [if_neg q]
                exact r12 i hi
            · rw [zk 34 (by decide), k1 34 (by decide), zk 46 (by decide), k1 46 (by decide)]
              rw [z36] at w
              by_cases q : 200 * F + i = 200 * F + D
              · omega
              · rw [if_neg q] at w
                exact r13 i hi w
            · rw [zk 34 (by decide), k1 34 (by decide), zk 46 (by decide), k1 46 (by decide)]
              exact r14
            · rw [zk 34 (by decide), k1 34 (by decide)]
              exact hwa.1
            · rw [zk 46 (by decide), k1 46 (by decide)]
              exact hhi.2
            · rw [z36, if_neg (by omega)]
              exact r11
            · rw [upd_b (by decide), kc 1 (by decide), zk 33 (by decide), k1 33 (by decide)]
              exact r1
            · rw [zk 35 (by decide), k1 35 (by decide)]
              exact r3
            · rw [upd_b (by decide), kc 6 (by decide), zk 37 (by decide), k1 37 (by decide)]
              exact r5
            · rw [upd_b (by decide), kc7, zk 38 (by decide), k38, r6]
            · rw [upd_b (by decide), kc 8 (by decide), zk 39 (by decide), k1 39 (by decide)]
              exact r7
            · rw [upd_b (by decide), kc 9 (by decide), zk 40 (by decide), k1 40 (by decide)]
              exact r8
            · rw [upd_b (by decide), kc 10 (by decide), zk 41 (by decide), k1 41 (by decide)]
              exact r9
          have hAV : AQ GA m1 a2 := AQ_keep hA1 rfl rfl (fun k hk => zk k (fun e => by rw [e] at hk; revert hk; decide)) (fun f => by rw [zk 46 (by decide)]; exact Int.le_refl _)
          obtain ⟨rv2, GA2, y1, y2, y3, y4, y5, y6⟩ := t215 hF (pk := pk) (ov := ov) (j4 := g) (j5 := 1) (j6 := 0) (i7 := 0) hV hAV hps hpb (by rw [m3]; exact hov) ⟨fun w => absurd rfl w, fun w => absurd rfl w.2.1⟩ hx2
          rw [m4] at y1 y6
          rw [m3] at y6
          rw [y1]
          refine ⟨rv2, _, GA2, rfl, y2, y3, RFR_trans (RFR_trans hR1 ⟨fun _ _ => rfl, fun k i hk hi => ?_⟩) y4, by rw [y5]; exact m29, y6⟩
          by_cases e : k = 36
          · rw [e, z36, if_neg (by omega), e36]
          · rw [zk k e]
      · -- it was kept already
        rw [if_neg c3] at hx2
        have hbt : bt4 kf ((ma 34 F).toInt.toNat + D) = true := hkb.mpr c3
        have hne : ¬ g = rv 2 := fun w => by
          have w2 := congrArg Int32.toInt w
          rw [r2] at w2
          have : D = 0 := by omega
          rw [this] at c3
          exact c3 r11
        rw [if_neg hne]
        unfold xc_take_54
        rw [h55]
        unfold xc_take_89
        simp (decide := true) only [bd_eq, ↓reduceIte]
        rw [← hrc]
        rw [show xc_has kf g = (kf, 1) by rw [eg, xc_has_eq (by omega), if_pos hbt]]
        simp (decide := true) only [↓reduceIte]
        exact useless 0 g 1 0 rfl hx2

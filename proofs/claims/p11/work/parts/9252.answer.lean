/-- a receiver and its rows -/
def RVq (F : Nat) (w0 : Int32) (rv : Nat → Int32) (kf : Nat → Int64) (ma : Nat → Nat → Int32) : Prop :=
  (rv 1 = 0 ↔ ma 33 F = 0) ∧ rv 2 = ma 34 F ∧ w0 = ma 35 F ∧ rv 5 = nI (cntK (fun i => ma 36 (200 * F + i)) 200) ∧ rv 6 = ma 37 F ∧ rv 7 = ma 38 F ∧ rv 8 = ma 39 F ∧ rv 9 = ma 40 F ∧ (rv 10 = 0 ↔ ma 41 F = 0) ∧ KQ kf (ma 34 F).toInt.toNat (fun i => ma 36 (200 * F + i)) ∧ ma 36 (200 * F) = 0 ∧ (∀ i, i < 200 → ma 36 (200 * F + i) = 0 ∨ ma 36 (200 * F + i) = 1) ∧ (∀ i : Nat, i < 200 → ¬ ma 36 (200 * F + i) = 0 → (ma 34 F).toInt + i < (ma 46 F).toInt) ∧ (ma 34 F).toInt ≤ (ma 46 F).toInt
theorem RVq_keep {F : Nat} {w0 : Int32} {rv : Nat → Int32} {kf : Nat → Int64} {ma a : Nat → Nat → Int32} (h : RVq F w0 rv kf ma) (hk : ∀ k, k ∈ ([33, 34, 35, 37, 38, 39, 40, 41] : List Nat) → a k F = ma k F) (h36 : ∀ i, i < 200 → a 36 (200 * F + i) = ma 36 (200 * F + i)) (hh : (ma 46 F).toInt ≤ (a 46 F).toInt) : RVq F w0 rv kf a := by
  obtain ⟨h1, h2, h3, h4, h5, h6, h7, h8, h9, h10, h11, h12, h13, h14⟩ := h
  have e0 : a 36 (200 * F) = ma 36 (200 * F) := h36 0 (by omega)
  refine ⟨by rw [hk 33 (by decide)]; exact h1, by rw [hk 34 (by decide)]; exact h2, by rw [hk 35 (by decide)]; exact h3, by rw [cntK_congr (A := fun i => a 36 (200 * F + i)) (B := fun i => ma 36 (200 * F + i)) (fun i hi => h36 i hi)]; exact h4, by rw [hk 37 (by decide)]; exact h5, by rw [hk 38 (by decide)]; exact h6, by rw [hk 39 (by decide)]; exact h7, by rw [hk 40 (by decide)]; exact h8, by rw [hk 41 (by decide)]; exact h9, ?_, by rw [e0]; exact h11, fun i hi => by rw [h36 i hi]; exact h12 i hi, fun i hi w => ?_, ?_⟩
  · rw [hk 34 (by decide)]
    refine ⟨fun i hi => ?_, h10.2⟩
    show _ ↔ ¬ a 36 (200 * F + i) = 0
    rw [h36 i hi]
    exact h10.1 i hi
  · rw [h36 i hi] at w
    have := h13 i hi w
    rw [hk 34 (by decide)]
    omega
  · rw [hk 34 (by decide)]
    omega
/-- what a method of one receiver leaves as it was -/
def RFR (F : Nat) (mi : Nat → Int32) (ma : Nat → Nat → Int32) (m : Nat → Int32) (a : Nat → Nat → Int32) : Prop := (∀ k, k ∉ ([29, 17, 18, 19] : List Nat) → m k = mi k) ∧ ∀ k i, k ∉ ([20, 21, 22, 23, 24, 25] : List Nat) → (k < 33 ∨ 41 < k ∨ (k ≠ 36 ∧ i ≠ F) ∨ (k = 36 ∧ i / 200 ≠ F)) → a k i = ma k i
theorem RFR_refl {F : Nat} {mi : Nat → Int32} {ma : Nat → Nat → Int32} : RFR F mi ma mi ma := ⟨fun _ _ => rfl, fun _ _ _ _ => rfl⟩
theorem RFR_trans {F : Nat} {mi m m2 : Nat → Int32} {ma a a2 : Nat → Nat → Int32} (h : RFR F mi ma m a) (h2 : RFR F m a m2 a2) : RFR F mi ma m2 a2 := ⟨fun k hk => (h2.1 k hk).trans (h.1 k hk), fun k i hk hi => (h2.2 k i hk hi).trans (h.2 k i hk hi)⟩
theorem RFR_up {F k : Nat} {mi : Nat → Int32} {ma : Nat → Nat → Int32} {v : Int32} (h1 : 33 ≤ k) (h2 : k ≤ 41) (h3 : k ≠ 36) : RFR F mi ma mi (va_up ma k (upd (ma k) F v)) := ⟨fun _ _ => rfl, fun j i hj hi => by
  by_cases e : j = k
  · subst e
    rw [va_up_self, upd_b (by omega)]
  · rw [va_up_ne _ _ e]⟩
theorem owc_nn {f : Nat → Int32} : 0 ≤ owc f := by
  unfold owc ow1
  repeat' split
  all_goals omega
theorem chc_nn {f : Nat → Int32} : 0 ≤ chc f := by
  unfold chc ch1
  repeat' split
  all_goals omega
theorem ans156 {F E : Nat} (hF : F < 4) (hE : E < 6000) {pb : Int32} {mi : Nat → Int32} (h18 : mi 18 = nI E) : ∀ (fu i : Nat) (ma : Nat → Nat → Int32), i ≤ 200 → 200 < fu + i → (∀ i, i < 200 → ma 36 (200 * F + i) = 0 ∨ ma 36 (200 * F + i) = 1) → x_answer_156 (nI F) pb fu mi ma (nI i) = some (upd mi 18 (nI (E + 1)), va_up ma 25 (cpy (ma 25) (ma 36) (200 * E) (200 * F) i 200), 0)
  | 0, i, ma, h1, h2, h3 => by omega
  | fu + 1, i, ma, h1, h2, h3 => by
    rw [x_answer_156]
    simp only [bd_eq]
    rw [h18]
    by_cases c : i = 200
    · subst c
      rw [if_pos (show (200 : Int32) ≤ nI 200 by decide), cpy_end, va_id, nI_1]
    · rw [if_neg (fun w => by
        have := Int32.le_iff_toInt_le.mp w
        rw [nI_toInt (by omega), show (200 : Int32).toInt = 200 by decide] at this
        omega), mul200 hF, mul200b hE, nI_add, nI_add, nI_clamp (show 200 * F + i < 2 ^ 31 by omega), nI_clamp (show 200 * E + i < 2 ^ 31 by omega), nI_1, nar01 (h3 i (by omega)), ans156 hF hE h18 fu (i + 1) _ (by omega) (by omega) (by rw [va_up_ne _ _ (by decide)]; exact h3)]
      rw [va_up_self, va_va, va_up_ne _ _ (show (36 : Nat) ≠ 25 by decide), cpy_step (by omega)]
def newA (F E : Nat) (pb : Int32) (mi : Nat → Int32) (ma : Nat → Nat → Int32) : Nat → Nat → Int32 := va_up (va_up (va_up (va_up (va_up (va_up ma 20 (upd (ma 20) E (mi 4 + mi 3))) 21 (upd (ma 21) E (nI F))) 22 (upd (ma 22) E (ma 34 F))) 23 (upd (ma 23) E (ma 35 F))) 24 (upd (ma 24) E pb)) 25 (cpy (ma 25) (ma 36) (200 * E) (200 * F) 0 200)
theorem newA_k {F E k : Nat} {pb : Int32} {mi : Nat → Int32} {ma : Nat → Nat → Int32} (h : k ∉ ([20, 21, 22, 23, 24, 25] : List Nat)) : newA F E pb mi ma k = ma k := by
  have n : ∀ j, j ∈ ([20, 21, 22, 23, 24, 25] : List Nat) → k ≠ j := fun j hj e => h (e ▸ hj)
  unfold newA
  rw [va_up_ne _ _ (n 25 (by decide)), va_up_ne _ _ (n 24 (by decide)), va_up_ne _ _ (n 23 (by decide)), va_up_ne _ _ (n 22 (by decide)), va_up_ne _ _ (n 21 (by decide)), va_up_ne _ _ (n 20 (by decide))]
theorem newA_E {F E : Nat} {pb : Int32} {mi : Nat → Int32} {ma : Nat → Nat → Int32} : newA F E pb mi ma 20 E = mi 4 + mi 3 ∧ newA F E pb mi ma 21 E = nI F ∧ newA F E pb mi ma 22 E = ma 34 F ∧ newA F E pb mi ma 23 E = ma 35 F ∧ newA F E pb mi ma 24 E = pb ∧ ∀ i, i < 200 → newA F E pb mi ma 25 (200 * E + i) = ma 36 (200 * F + i) := by
  unfold newA
  refine ⟨?_, ?_, ?_, ?_, ?_, fun i hi => ?_⟩
  · simp (decide := true) only [va_up_self, va_up_ne, ne_eq, not_false_eq_true, upd_a]
  · simp (decide := true) only [va_up_self, va_up_ne, ne_eq, not_false_eq_true, upd_a]
  · simp (decide := true) only [va_up_self, va_up_ne, ne_eq, not_false_eq_true, upd_a]
  · simp (decide := true) only [va_up_self, va_up_ne, ne_eq, not_false_eq_true, upd_a]
  · simp (decide := true) only [va_up_self, va_up_ne, ne_eq, not_false_eq_true, upd_a]
  · rw [va_up_self]
    unfold cpy
    rw [if_pos (show 200 * E + 0 ≤ 200 * E + i ∧ 200 * E + i < 200 * E + 200 by omega), show 200 * E + i - 200 * E = i by omega]
theorem newA_j {F E j : Nat} {pb : Int32} {mi : Nat → Int32} {ma : Nat → Nat → Int32} (h : j ≠ E) : ENT (newA F E pb mi ma) j ma j := by
  refine ⟨fun k hk => ?_, fun i hi => ?_⟩
  · unfold newA
    simp only [List.mem_cons, List.not_mem_nil, or_false] at hk
    rcases hk with hk | hk | hk | hk | hk <;> subst hk <;> simp (decide := true) only [va_up_self, va_up_ne, ne_eq, not_false_eq_true] <;> exact upd_b h
  · unfold newA
    rw [va_up_self]
    unfold cpy
    exact if_neg (fun w => by omega)
theorem ans86 {F E : Nat} (hF : F < 4) (hE : E < 6000) {pb : Int32} (hpb : pb = 0 ∨ pb = 1) {mi : Nat → Int32} (h18 : mi 18 = nI E) {ma : Nat → Nat → Int32} (h36 : ∀ i, i < 200 → ma 36 (200 * F + i) = 0 ∨ ma 36 (200 * F + i) = 1) : x_answer_86 (nI F) pb mi ma = some (upd mi 18 (nI (E + 1)), newA F E pb mi ma, 0) := by
  unfold x_answer_86
  simp only [bd_eq]
  rw [h18, nI_clamp (show E < 2 ^ 31 by omega), nI_clamp (show F < 2 ^ 31 by omega), nar01 hpb]
  simp (decide := true) only [va_up_ne, ne_eq, not_false_eq_true]
  have := ans156 hF hE (pb := pb) h18 201 0 (va_up (va_up (va_up (va_up (va_up ma 20 (upd (ma 20) E (mi 4 + mi 3))) 21 (upd (ma 21) E (nI F))) 22 (upd (ma 22) E (ma 34 F))) 23 (upd (ma 23) E (ma 35 F))) 24 (upd (ma 24) E pb)) (by omega) (by omega) (by
    simp (decide := true) only [va_up_ne, ne_eq, not_false_eq_true]
    exact h36)
  rw [show nI 0 = (0 : Int32) by decide] at this
  rw [this]
  simp (decide := true) only [va_up_ne, ne_eq, not_false_eq_true]
  rfl
theorem ans36 {F : Nat} {pb : Int32} {mi : Nat → Int32} {ma : Nat → Nat → Int32} : ∃ z, x_answer_36 (nI F) pb mi ma = x_answer_86 (nI F) pb (upd mi 19 z) ma := by
  unfold x_answer_36
  simp only [bd_eq]
  repeat' split
  all_goals exact ⟨_, rfl⟩
theorem answer_pair {F : Nat} (hF : F < 4) {w0 sp pb : Int32} {ov rv : Nat → Int32} {kf : Nat → Int64} {GA : List A6} {mi m : Nat → Int32} {ma a : Nat → Nat → Int32} {r : Int32} (h : RVq F w0 rv kf ma) (hA : AQ GA mi ma) (hpb : pb = 0 ∨ pb = 1) (hsp : sp = 0 ↔ ¬ pb = 0) (hov : ov 3 = mi 3) (hx : x_answer (nI F) pb mi ma = some (m, a, r)) : ∃ rv2 e, xc_answer ov (srtA GA) (nI F) w0 rv kf sp (mi 4) = (rv2, kf, srtA (GA ++ [e])) ∧ RVq F w0 rv2 kf a ∧ AQ (GA ++ [e]) m a ∧ RFR F mi ma m a ∧ e.1 = mi 4 + mi 3 ∧ m 29 = mi 29 := by
  unfold x_answer at hx
  obtain ⟨⟨hMB, _, hw1, ph, cl, hph, hcl, hDA⟩, hx⟩ := ax_some hx
  have hF2 : (nI F).toNatClampNeg = F := nI_clamp (by omega)
  simp only [bd_eq, hF2] at hx
  rw [hF2] at hDA
  obtain ⟨a1, ha1⟩ : ∃ y, y = va_up (va_up ma 40 (upd (ma 40) F (-1))) 37 (upd (va_up ma 40 (upd (ma 40) F (-1)) 37) F (va_up ma 40 (upd (ma 40) F (-1)) 37 F + 1)) := ⟨_, rfl⟩
  rw [← ha1] at hx
  have k1 : ∀ k, k ≠ 40 → k ≠ 37 → a1 k = ma k := fun k e1 e2 => by rw [ha1, va_up_ne _ _ e2, va_up_ne _ _ e1]
  have k40 : ∀ i, a1 40 i = if i = F then -1 else ma 40 i := fun i => by
    rw [ha1, va_up_ne _ _ (by decide), va_up_self]
    by_cases e : i = F
    · rw [if_pos e, e, upd_a]
    · rw [if_neg e, upd_b e]
  have k37 : ∀ i, a1 37 i = if i = F then ma 37 F + 1 else ma 37 i := fun i => by
    rw [ha1, va_up_self, va_up_ne _ _ (by decide)]
    by_cases e : i = F
    · rw [if_pos e, e, upd_a]
    · rw [if_neg e, upd_b e]
  have hlen : GA.length < 6000 := by
    obtain ⟨⟨l1, l2, l3⟩, _⟩ := hA
    rcases Nat.eq_zero_or_pos GA.length with z | z
    · omega
    · have d := (hDA.2.1 (mi 17).toInt.toNat (by omega) (by omega))
      have o := owc_nn (f := upd (ma 40) F (-1))
      have c := chc_nn (f := ma 41)
      omega
  have hA1 : AQ GA mi a1 := AQ_keep hA rfl rfl (fun k hk => k1 k (fun e => by rw [e] at hk; revert hk; decide) (fun e => by rw [e] at hk; revert hk; decide)) (fun f => by rw [k1 46 (by decide) (by decide)]; exact Int.le_refl _)
  obtain ⟨r1, r2, r3, r4, r5, r6, r7, r8, r9, r10, r11, r12, r13, r14⟩ := h
  -- behind a moving down, if there was one
  have hcomp : ∃ mm aa, (if mi 18 = 6000 then bc (x_acksDownF (mi 17) mi a1) (fun m46 a47 _ => x_answer_36 (nI F) pb m46 a47) else x_answer_36 (nI F) pb mi a1) = x_answer_36 (nI F) pb mm aa ∧ AQ GA mm aa ∧ (mm 18).toInt < 6000 ∧ (∀ k, k ≠ 17 → k ≠ 18 → mm k = mi k) ∧ (∀ k, k ∉ ([20, 21, 22, 23, 24, 25] : List Nat) → aa k = a1 k) := by
    by_cases c : mi 18 = 6000
    · rw [if_pos c]
      obtain ⟨aa, x1, x2, x3⟩ := AQ_down hA1
      rw [x1, bc_eq]
      refine ⟨_, _, rfl, x2, ?_, fun k e1 e2 => by rw [upd_b e2, upd_b e1], x3⟩
      rw [upd_a, nI_toInt (by omega)]
      omega
    · rw [if_neg c]
      refine ⟨mi, a1, rfl, hA1, ?_, fun _ _ _ => rfl, fun _ _ => rfl⟩
      have z := hA.1
      have : (mi 18).toInt ≠ 6000 := fun w => c (Int32.toInt_inj.mp (by rw [w]; decide))
      omega
  obtain ⟨mm, aa, y1, y2, y3, y4, y5⟩ := hcomp
  rw [y1] at hx
  obtain ⟨z, hz⟩ := ans36 (F := F) (pb := pb) (mi := mm) (ma := aa)
  rw [hz] at hx
  have e36 : aa 36 = ma 36 := by rw [y5 36 (by decide), k1 36 (by decide) (by decide)]
  have e34 : aa 34 = ma 34 := by rw [y5 34 (by decide), k1 34 (by decide) (by decide)]
  have e35 : aa 35 = ma 35 := by rw [y5 35 (by decide), k1 35 (by decide) (by decide)]
  have e46 : aa 46 = ma 46 := by rw [y5 46 (by decide), k1 46 (by decide) (by decide)]
  have h18 : upd mm 19 z 18 = nI (mm 18).toInt.toNat := by
    rw [upd_b (by decide)]
    exact nIof (by have := y2.1; omega)
  rw [ans86 hF (E := (mm 18).toInt.toNat) (by have := y2.1; omega) hpb h18 (by rw [e36]; exact r12)] at hx
  have hx := Option.some.inj hx
  have q1 : upd (upd mm 19 z) 18 (nI ((mm 18).toInt.toNat + 1)) = m := congrArg Prod.fst hx
  have q2 : newA F (mm 18).toInt.toNat pb (upd mm 19 z) aa = a := congrArg (fun x => x.2.1) hx
  have ea : ∀ k, k ∉ ([20, 21, 22, 23, 24, 25] : List Nat) → a k = a1 k := fun k hk => by rw [← q2, newA_k hk, y5 k hk]
  have t4 : upd mm 19 z 4 = mi 4 := by rw [upd_b (by decide), y4 4 (by decide) (by decide)]
  have t3 : upd mm 19 z 3 = mi 3 := by rw [upd_b (by decide), y4 3 (by decide) (by decide)]
  have nE := newA_E (F := F) (E := (mm 18).toInt.toNat) (pb := pb) (mi := upd mm 19 z) (ma := aa)
  rw [q2, t4, t3, e34, e35, e36] at nE
  obtain ⟨v20, v21, v22, v23, v24, v25⟩ := nE
  have a46 : a 46 = ma 46 := by rw [ea 46 (by decide), k1 46 (by decide) (by decide)]
  refine ⟨upd (upd rv 9 (-1)) 6 (rv 6 + 1), (mi 4 + ov 3, nI F, rv 2, sp, w0, rw4 kf), ?_, ?_, ?_, ?_, ?_, ?_⟩
  · unfold xc_answer xc_sendAck xc_writeToP
    simp only [bd_eq]
    simp (decide := true) only [upd_b, ne_eq, not_false_eq_true]
    rw [srtA_snoc]
  · refine ⟨?_, ?_, ?_, ?_, ?_, ?_, ?_, ?_, ?_, ?_, ?_, ?_, ?_, ?_⟩
    · simp (decide := true) only [upd_b, ne_eq, not_false_eq_true]
      rw [ea 33 (by decide), k1 33 (by decide) (by decide)]
      exact r1
    · simp (decide := true) only [upd_b, ne_eq, not_false_eq_true]
      rw [ea 34 (by decide), k1 34 (by decide) (by decide)]
      exact r2
    · rw [ea 35 (by decide), k1 35 (by decide) (by decide)]
      exact r3
    · simp (decide := true) only [upd_b, ne_eq, not_false_eq_true]
      rw [ea 36 (by decide), k1 36 (by decide) (by decide)]
      exact r4
    · rw [upd_a, ea 37 (by decide), k37, if_pos rfl, r5]
    · simp (decide := true) only [upd_b, ne_eq, not_false_eq_true]
      rw [ea 38 (by decide), k1 38 (by decide) (by decide)]
      exact r6
    · simp (decide := true) only [upd_b, ne_eq, not_false_eq_true]
      rw [ea 39 (by decide), k1 39 (by decide) (by decide)]
      exact r7
    · rw [upd_b (by decide), upd_a, ea 40 (by decide), k40, if_pos rfl]
    · simp (decide := true) only [upd_b, ne_eq, not_false_eq_true]
      rw [ea 41 (by decide), k1 41 (by decide) (by decide)]
      exact r9
    · rw [ea 34 (by decide), k1 34 (by decide) (by decide), ea 36 (by decide), k1 36 (by decide) (by decide)]
      exact r10
    · rw [ea 36 (by decide), k1 36 (by decide) (by decide)]
      exact r11
    · rw [ea 36 (by decide), k1 36 (by decide) (by decide)]
      exact r12
    · rw [ea 34 (by decide), k1 34 (by decide) (by decide), ea 36 (by decide), k1 36 (by decide) (by decide), a46]
      exact r13
    · rw [ea 34 (by decide), k1 34 (by decide) (by decide), a46]
      exact r14
  · obtain ⟨⟨l1, l2, l3⟩, l4⟩ := y2
    have m17 : m 17 = mm 17 := by rw [← q1, upd_b (by decide), upd_b (by decide)]
    have m18 : m 18 = nI ((mm 18).toInt.toNat + 1) := by rw [← q1, upd_a]
    refine ⟨?_, fun k e he => ?_⟩
    · rw [m17, m18, nI_toInt (by omega), List.length_append]
      show 0 ≤ (mm 17).toInt ∧ (mm 17).toInt + ((GA.length + 1 : Nat) : Int) = (((mm 18).toInt.toNat + 1 : Nat) : Int) ∧ (((mm 18).toInt.toNat + 1 : Nat) : Int) ≤ 6000
      omega
    · rw [m17]
      rcases Nat.lt_or_ge k GA.length with w | w
      · rw [List.getElem?_append_left w] at he
        refine AE_move (l4 k e he) ?_ (fun f => by rw [a46, e46]; exact Int.le_refl _)
        rw [← q2]
        exact newA_j (by omega)
      · rw [List.getElem?_append_right w] at he
        have hk : k = GA.length := by
          have := (List.getElem?_eq_some_iff.mp he).1
          simp at this
          omega
        subst hk
        rw [show GA.length - GA.length = 0 by omega] at he
        have he2 := (Option.some.inj he).symm
        subst he2
        have eK : (mm 17).toInt.toNat + GA.length = (mm 18).toInt.toNat := by omega
        rw [eK]
        have hr2 : rv 2 = ma 34 F := r2
        refine ⟨by rw [v20, hov], by rw [v21], by rw [v24]; exact hpb, by rw [v22]; exact hr2, by rw [v23]; exact r3, by rw [v24]; exact hsp, fun i hi => ?_, ?_, fun i hi w => ?_, ?_⟩
        · rw [v25 i hi, v22]
          show ma 36 (200 * F + i) = b01 (bt4 (rowf (rw4 kf)) _)
          rw [rowf_rw4]
          have q := r10.1 i hi
          unfold b01
          by_cases c : bt4 kf ((ma 34 F).toInt.toNat + i) = true
          · rw [if_pos c]
            exact (r12 i hi).resolve_left (q.mp c)
          · rw [if_neg c]
            by_cases c2 : ma 36 (200 * F + i) = 0
            · exact c2
            · exact absurd (q.mpr c2) c
        · have := v25 0 (by omega)
          rw [show 200 * (mm 18).toInt.toNat + 0 = 200 * (mm 18).toInt.toNat from rfl, show 200 * F + 0 = 200 * F from rfl] at this
          rw [this]
          exact r11
        · rw [v25 i hi] at w
          rw [v22, v21, hF2, a46]
          exact r13 i hi w
        · rw [v22, v21, hF2, a46]
          exact r14
  · refine ⟨fun k hk => ?_, fun k i hk hi => ?_⟩
    · have e17 : k ≠ 17 := fun e => hk (by rw [e]; decide)
      have e18 : k ≠ 18 := fun e => hk (by rw [e]; decide)
      have e19 : k ≠ 19 := fun e => hk (by rw [e]; decide)
      rw [← q1, upd_b e18, upd_b e19, y4 k e17 e18]
    · rw [ea k hk]
      by_cases c40 : k = 40
      · rw [c40, k40, if_neg (by omega)]
      · by_cases c37 : k = 37
        · rw [c37, k37, if_neg (by omega)]
        · rw [k1 k c40 c37]
  · show mi 4 + ov 3 = mi 4 + mi 3
    rw [hov]
  · rw [← q1, upd_b (by decide), upd_b (by decide), y4 29 (by decide) (by decide)]

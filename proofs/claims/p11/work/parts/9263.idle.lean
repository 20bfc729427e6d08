theorem SI_mono {T T2 : Int} {t t2 : Int32} {u : Nat → Int32} (h : SI T t u) (hT : T ≤ T2) (ht : t.toInt ≤ t2.toInt) : SI T2 t2 u := by
  obtain ⟨h1, h2, h3, h4, h5, h6, h7, h8⟩ := h
  exact ⟨h1, h2, h3.imp id (fun w => ⟨w.1, by omega⟩), h4.imp id (fun w => ⟨w.1, by omega⟩), h5, h6, h7, h8⟩
/-- the tick goes on -/
theorem BRq_tick {n : Nat} {FX : Nat → Nat → Int32} {T T2 : Int} {ov tf : Nat → Int32} {FV : FVt} {FJ : FJt} {go : Option S4} {gq : List S3} {GA : List A6} {mi m : Nat → Int32} {ma : Nat → Nat → Int32} (h : BRq n FX T ov tf FV FJ go gq GA mi ma) (hT : T ≤ T2) (hm : ∀ k, k ≠ 4 → k ≠ 73 → m k = mi k) (ht : (mi 4).toInt ≤ (m 4).toInt) : BRq n FX T2 ov tf FV FJ go gq GA m ma := by
  obtain ⟨⟨h1, h2⟩, h3, h4, h5⟩ := h
  refine ⟨⟨h1, by rw [hm 32 (by decide) (by decide)]; exact h2.1, h2.2⟩, fun j hj => ?_, RR_keep h4 (fun k hk => hm k (fun e => by rw [e] at hk; revert hk; decide) (fun e => by rw [e] at hk; revert hk; decide)) (fun _ _ => rfl) (fun _ => Int.le_refl _), AQ_keep h5 (hm 17 (by decide) (by decide)) (hm 18 (by decide) (by decide)) (fun _ _ => rfl) (fun _ => Int.le_refl _)⟩
  obtain ⟨q1, q2, q3⟩ := h3 j hj
  exact ⟨q1, ⟨q2.1, SI_mono q2.2.1 hT ht, q2.2.2⟩, q3⟩
theorem WQ_tick {GW : List S4} {mi m : Nat → Int32} {ma : Nat → Nat → Int32} (h : WQ GW mi ma) (hm : ∀ k, k ≠ 4 → k ≠ 73 → m k = mi k) : WQ GW m ma := WQ_keep h (hm 10 (by decide) (by decide)) (hm 11 (by decide) (by decide)) (fun _ _ => rfl) (fun _ => Int.le_refl _)
theorem goes_idle {mi m : Nat → Int32} {ma a : Nat → Nat → Int32} {r : Int32} (h : mi 6 = 0 ∨ ¬ mi 5 = mi 4) (hx : x_goes mi ma = some (m, a, r)) : m = mi ∧ a = ma := by
  unfold x_goes at hx
  have hx := (ax_some hx).2
  simp only [bd_eq] at hx
  have fin : some (mi, ma, (0 : Int32)) = some (m, a, r) → m = mi ∧ a = ma := fun w => by
    have w := Option.some.inj w
    exact ⟨(congrArg Prod.fst w).symm, (congrArg (fun x => x.2.1) w).symm⟩
  by_cases c : mi 6 = 0
  · rw [if_pos c] at hx
    exact fin hx
  · rw [if_neg c, if_neg (h.resolve_left c)] at hx
    exact fin hx
theorem mvW_id {a : Nat → Nat → Int32} {p : Nat} : mvW a p p = a := by
  unfold mvW
  rw [upd_c, va_id, upd_c, va_id, upd_c, va_id, upd_c, va_id]
theorem comes95_idle {E : Nat} (hE : E ≤ 4096) {mi m : Nat → Int32} {ma a : Nat → Nat → Int32} {r : Int32} (h11 : mi 11 = nI E) : ∀ (d p fu : Nat), p + d = E → (∀ k, p ≤ k → k < E → ¬ ma 13 k = mi 4 ∧ (ma 16 k = 0 ∨ ma 16 k = 1)) → x_comes_95 fu mi ma (nI p) (nI p) = some (m, a, r) → m = mi ∧ a = ma
  | d, p, 0, hd, hk, hx => by
    rw [x_comes_95] at hx
    cases hx
  | 0, p, fu + 1, hd, hk, hx => by
    rw [x_comes_95] at hx
    simp only [bd_eq] at hx
    rw [h11, show p = E by omega, if_pos (Int32.le_refl _)] at hx
    have hx := Option.some.inj hx
    have q1 : upd mi 11 (nI E) = m := congrArg Prod.fst hx
    have q2 : ma = a := congrArg (fun x => x.2.1) hx
    rw [← h11, upd_c] at q1
    exact ⟨q1.symm, q2.symm⟩
  | d + 1, p, fu + 1, hd, hk, hx => by
    rw [x_comes_95] at hx
    simp only [bd_eq] at hx
    have q := hk p (Nat.le_refl _) (by omega)
    rw [h11, if_neg (fun w => by have := (nIle (by omega) (by omega)).mp w; omega), nI_clamp (show p < 2 ^ 31 by omega), if_neg q.1, x_way_eq (by omega) (by omega) q.2, bc_eq, mvW_id, nI_1] at hx
    exact comes95_idle hE h11 d (p + 1) fu (by omega) (fun k h1 h2 => hk k (by omega) h2) hx
theorem comes_idle {GW : List S4} {mi m : Nat → Int32} {ma a : Nat → Nat → Int32} {r : Int32} (hW : WQ GW mi ma) (hn : ∀ e, e ∈ GW → ¬ e.1 = mi 4) (hx : x_comes mi ma = some (m, a, r)) : m = mi ∧ a = ma := by
  unfold x_comes at hx
  have hx := (ax_some hx).2
  simp only [bd_eq] at hx
  obtain ⟨⟨w1, w2, w3⟩, w4⟩ := hW
  have hd : ∀ k, k < GW.length → ¬ ma 13 ((mi 10).toInt.toNat + k) = mi 4 ∧ (ma 16 ((mi 10).toInt.toNat + k) = 0 ∨ ma 16 ((mi 10).toInt.toNat + k) = 1) := fun k hk => by
    obtain ⟨p1, p2, _⟩ := w4 k _ (List.getElem?_eq_getElem hk)
    have q := hn GW[k] (List.getElem_mem hk)
    rw [p1] at q p2
    exact ⟨q, p2⟩
  by_cases c : mi 12 = 0
  · rw [if_pos c, x_comes_7] at hx
    simp only [bd_eq] at hx
    have fin : some (mi, ma, (0 : Int32)) = some (m, a, r) → m = mi ∧ a = ma := fun w => by
      have w := Option.some.inj w
      exact ⟨(congrArg Prod.fst w).symm, (congrArg (fun x => x.2.1) w).symm⟩
    by_cases c2 : mi 11 ≤ mi 10
    · rw [if_pos c2] at hx
      exact fin hx
    · have h0 := Int32.lt_iff_toInt_lt.mp (Int32.not_le.mp c2)
      have q := hd 0 (by omega)
      have h10 : (mi 10).toNatClampNeg = (mi 10).toInt.toNat := by
        conv => lhs; rw [nIof w1]
        exact nI_clamp (by omega)
      rw [if_neg c2, h10, if_neg (show ¬ ma 13 (mi 10).toInt.toNat = mi 4 from q.1)] at hx
      exact fin hx
  · rw [if_neg c] at hx
    have h11 : mi 11 = nI ((mi 10).toInt.toNat + GW.length) := by
      apply Int32.toInt_inj.mp
      rw [nI_toInt (by omega)]
      omega
    refine comes95_idle (E := (mi 10).toInt.toNat + GW.length) (by omega) h11 GW.length (mi 10).toInt.toNat 5000 rfl (fun k h1 h2 => ?_) (by rw [← nIof w1]; exact hx)
    have := hd (k - (mi 10).toInt.toNat) (by omega)
    rw [show (mi 10).toInt.toNat + (k - (mi 10).toInt.toNat) = k by omega] at this
    exact this
theorem ans43_idle {n : Nat} (hn : n ≤ 4) {mi m : Nat → Int32} {ma a : Nat → Nat → Int32} {r : Int32} (h32 : mi 32 = nI n) (h40 : ∀ j, j < n → ¬ ma 40 j = mi 4) : ∀ (d j fu : Nat), j + d = n → x_answers_43 fu mi ma (nI j) = some (m, a, r) → m = mi ∧ a = ma
  | d, j, 0, hd, hx => by
    rw [x_answers_43] at hx
    cases hx
  | 0, j, fu + 1, hd, hx => by
    rw [x_answers_43] at hx
    simp only [bd_eq] at hx
    rw [h32, show j = n by omega, if_pos (Int32.le_refl _)] at hx
    have hx := Option.some.inj hx
    exact ⟨(congrArg Prod.fst hx).symm, (congrArg (fun x => x.2.1) hx).symm⟩
  | d + 1, j, fu + 1, hd, hx => by
    rw [x_answers_43] at hx
    simp only [bd_eq] at hx
    rw [h32, if_neg (fun w => by have := (nIle (by omega) (by omega)).mp w; omega), nI_clamp (show j < 2 ^ 31 by omega), if_neg (h40 j (by omega)), nI_1] at hx
    exact ans43_idle hn h32 h40 d (j + 1) fu (by omega) hx
theorem ans2_idle {n : Nat} (hn : n ≤ 4) {mi m : Nat → Int32} {ma a : Nat → Nat → Int32} {r : Int32} (h32 : mi 32 = nI n) (h40 : ∀ j, j < n → ¬ ma 40 j = mi 4) (h41 : ∀ j, j < n → ma 41 j = 0) : ∀ (d j fu : Nat), j + d = n → x_answers_2 fu mi ma (nI j) = some (m, a, r) → m = mi ∧ a = ma
  | d, j, 0, hd, hx => by
    rw [x_answers_2] at hx
    cases hx
  | 0, j, fu + 1, hd, hx => by
    rw [x_answers_2] at hx
    simp only [bd_eq] at hx
    rw [h32, show j = n by omega, if_pos (Int32.le_refl _)] at hx
    exact ans43_idle hn h32 h40 n 0 5 (by omega) (by rw [show nI 0 = (0 : Int32) by decide]; exact hx)
  | d + 1, j, fu + 1, hd, hx => by
    rw [x_answers_2] at hx
    simp only [bd_eq] at hx
    rw [h32, if_neg (fun w => by have := (nIle (by omega) (by omega)).mp w; omega), nI_clamp (show j < 2 ^ 31 by omega), if_pos (h41 j (by omega)), nI_1] at hx
    exact ans2_idle hn h32 h40 h41 d (j + 1) fu (by omega) hx
theorem answers_idle {n : Nat} (hn : n ≤ 4) {mi m : Nat → Int32} {ma a : Nat → Nat → Int32} {r : Int32} (h32 : mi 32 = nI n) (h40 : ∀ j, j < n → ¬ ma 40 j = mi 4) (h41 : ∀ j, j < n → ma 41 j = 0) (hx : x_answers mi ma = some (m, a, r)) : m = mi ∧ a = ma := by
  unfold x_answers at hx
  have hx := (ax_some hx).2
  exact ans2_idle hn h32 h40 h41 n 0 5 (by omega) (by rw [show nI 0 = (0 : Int32) by decide]; exact hx)
theorem hearsT_idle {E : Nat} (hE : E ≤ 6000) {f : Int32} {mi m : Nat → Int32} {ma a : Nat → Nat → Int32} {r : Int32} (h18 : mi 18 = nI E) : ∀ (d p fu : Nat), p + d = E → (∀ k, p ≤ k → k < E → ¬ ma 20 k = mi 4) → x_acksDownT_a f fu 13 mi ma (nI p) (nI p) 0 = some (m, a, r) → m = mi ∧ a = ma
  | d, p, 0, hd, hk, hx => by
    rw [x_acksDownT_a] at hx
    cases hx
  | 0, p, fu + 1, hd, hk, hx => by
    rw [x_acksDownT_a, if_pos rfl] at hx
    simp only [bd_eq] at hx
    rw [h18, show p = E by omega, if_pos (Int32.le_refl _)] at hx
    have hx := Option.some.inj hx
    have q1 : upd mi 18 (nI E) = m := congrArg Prod.fst hx
    have q2 : ma = a := congrArg (fun x => x.2.1) hx
    rw [← h18, upd_c] at q1
    exact ⟨q1.symm, q2.symm⟩
  | d + 1, p, fu + 1, hd, hk, hx => by
    rw [x_acksDownT_a, if_pos rfl] at hx
    simp only [bd_eq] at hx
    rw [h18, if_neg (fun w => by have := (nIle (by omega) (by omega)).mp w; omega), nI_clamp (show p < 2 ^ 31 by omega), if_neg (hk p (Nat.le_refl _) (by omega)), if_pos (Int32.le_refl _)] at hx
    cases fu with
    | zero =>
      rw [x_acksDownT_a] at hx
      cases hx
    | succ fu =>
      rw [x_acksDownT_a, if_neg (by decide), if_neg (by decide)] at hx
      simp only [bd_eq] at hx
      rw [nI_1] at hx
      exact hearsT_idle hE h18 d (p + 1) fu (by omega) (fun k h1 h2 => hk k (by omega) h2) hx
theorem hears_idle {GA : List A6} {mi m : Nat → Int32} {ma a : Nat → Nat → Int32} {r : Int32} (hA : AQ GA mi ma) (hn : ∀ e, e ∈ GA → ¬ e.1 = mi 4) (hx : x_hears mi ma = some (m, a, r)) : m = mi ∧ a = ma := by
  unfold x_hears at hx
  have hx := (ax_some hx).2
  simp only [bd_eq] at hx
  obtain ⟨⟨w1, w2, w3⟩, w4⟩ := hA
  have hd : ∀ k, k < GA.length → ¬ ma 20 ((mi 17).toInt.toNat + k) = mi 4 := fun k hk => by
    have p1 := (w4 k _ (List.getElem?_eq_getElem hk)).1
    have q := hn GA[k] (List.getElem_mem hk)
    rw [p1] at q
    exact q
  by_cases c : mi 19 = 0
  · rw [if_pos c, x_hears_17] at hx
    simp only [bd_eq] at hx
    have fin : some (mi, ma, (0 : Int32)) = some (m, a, r) → m = mi ∧ a = ma := fun w => by
      have w := Option.some.inj w
      exact ⟨(congrArg Prod.fst w).symm, (congrArg (fun x => x.2.1) w).symm⟩
    by_cases c2 : mi 18 ≤ mi 17
    · rw [if_pos c2] at hx
      exact fin hx
    · have h0 := Int32.lt_iff_toInt_lt.mp (Int32.not_le.mp c2)
      have q := hd 0 (by omega)
      have h17 : (mi 17).toNatClampNeg = (mi 17).toInt.toNat := by
        conv => lhs; rw [nIof w1]
        exact nI_clamp (by omega)
      rw [if_neg c2, h17, if_neg (show ¬ ma 20 (mi 17).toInt.toNat = mi 4 from q)] at hx
      exact fin hx
  · rw [if_neg c] at hx
    obtain ⟨m', a', r', y1, y2⟩ := bo_some hx
    have y2 := Option.some.inj y2
    have q1 : m' = m := congrArg Prod.fst y2
    have q2 : a' = a := congrArg (fun x => x.2.1) y2
    subst q1 q2
    unfold x_acksDownT at y1
    have y1 := (ax_some y1).2
    have h18 : mi 18 = nI ((mi 17).toInt.toNat + GA.length) := by
      apply Int32.toInt_inj.mp
      rw [nI_toInt (by omega)]
      omega
    have e17 := nIof w1
    refine hearsT_idle (f := mi 17) (E := (mi 17).toInt.toNat + GA.length) (by omega) h18 GA.length (mi 17).toInt.toNat _ rfl (fun k h1 h2 => ?_) (by rw [← e17]; exact y1)
    have := hd (k - (mi 17).toInt.toNat) (by omega)
    rw [show (mi 17).toInt.toNat + (k - (mi 17).toInt.toNat) = k by omega] at this
    exact this
theorem run55_idle {n : Nat} (hn : n ≤ 4) {n1 i2 i3 : Int32} {x : XT} {mi : Nat → Int32} {ma : Nat → Nat → Int32} (h32 : mi 32 = nI n) (h61 : ∀ j, j < n → ¬ ma 61 j = mi 4) : ∀ (d j fu : Nat), j + d = n → x_run_t n1 fu 55 mi ma i2 i3 (nI j) = some x → ∃ fu2, x_run_t n1 fu2 93 mi ma i2 i3 0 = some x
  | d, j, 0, hd, hx => by
    rw [x_run_t] at hx
    cases hx
  | 0, j, fu + 1, hd, hx => by
    rw [x_run_t, if_neg (by decide), if_pos rfl] at hx
    simp only [bd_eq] at hx
    rw [h32, show j = n by omega, if_pos (Int32.le_refl _)] at hx
    exact ⟨fu, hx⟩
  | d + 1, j, fu + 1, hd, hx => by
    rw [x_run_t, if_neg (by decide), if_pos rfl] at hx
    simp only [bd_eq] at hx
    rw [h32, if_neg (fun w => by have := (nIle (by omega) (by omega)).mp w; omega), nI_clamp (show j < 2 ^ 31 by omega), if_neg (h61 j (by omega)), nI_1] at hx
    exact run55_idle hn h32 h61 d (j + 1) fu (by omega) hx
theorem run93_idle {n : Nat} (hn : n ≤ 4) {n1 i2 i3 : Int32} {x : XT} {ma : Nat → Nat → Int32} {T : Int} {t : Int32} (hI : ∀ j, j < n → SI T t (col ma j)) (hq : ∀ j, j < n → QU j ma) : ∀ (d j fu : Nat) (mi : Nat → Int32), mi 32 = nI n → j + d = n → x_run_t n1 fu 93 mi ma i2 i3 (nI j) = some x → ∃ fu2 m, x_run_t n1 fu2 31 (upd m 4 (m 4 + 1)) ma i2 (i3 + 1) 0 = some x ∧ (∀ k, k ≠ 73 → m k = mi k)
  | d, j, 0, mi, h32, hd, hx => by
    rw [x_run_t] at hx
    cases hx
  | 0, j, fu + 1, mi, h32, hd, hx => by
    rw [x_run_t, if_neg (by decide), if_neg (by decide)] at hx
    simp only [bd_eq] at hx
    rw [h32, show j = n by omega, if_pos (Int32.le_refl _)] at hx
    exact ⟨fu, mi, hx, fun _ _ => rfl⟩
  | d + 1, j, fu + 1, mi, h32, hd, hx => by
    rw [x_run_t, if_neg (by decide), if_neg (by decide)] at hx
    simp only [bd_eq] at hx
    rw [h32, if_neg (fun w => by have := (nIle (by omega) (by omega)).mp w; omega), nI_1] at hx
    obtain ⟨m', a', r', y1, y2⟩ := bo_some hx
    obtain ⟨q1, q2⟩ := quiet (show j < 4 by omega) (hI j (by omega)) (hq j (by omega)) y1
    rw [q2] at y2
    have hm : ∀ k, k ≠ 73 → m' k = mi k := fun k hk => by rw [q1]; exact oum_k hk
    obtain ⟨fu2, m, v1, v2⟩ := run93_idle hn hI hq d (j + 1) fu m' (by rw [hm 32 (by decide)]; exact h32) (by omega) y2
    exact ⟨fu2, m, v1, fun k hk => (v2 k hk).trans (hm k hk)⟩
/-- a tick at which nothing is due -/
theorem tick_idle {n : Nat} {FX : Nat → Nat → Int32} {T : Int} {ov tf : Nat → Int32} {FV : FVt} {FJ : FJt} {go : Option S4} {gq : List S3} {GA : List A6} {GW : List S4} {n1 i2 i3 : Int32} {x : XT} {mi : Nat → Int32} {ma : Nat → Nat → Int32} {fu : Nat} (h : BRq n FX T ov tf FV FJ go gq GA mi ma) (hW : WQ GW mi ma) (hl : mi 6 = 0 ∨ ¬ mi 5 = mi 4) (hw : ∀ e, e ∈ GW → ¬ e.1 = mi 4) (ha : ∀ e, e ∈ GA → ¬ e.1 = mi 4) (h40 : ∀ j, j < n → ¬ ma 40 j = mi 4) (h41 : ∀ j, j < n → ma 41 j = 0) (h61 : ∀ j, j < n → ¬ ma 61 j = mi 4) (hq : ∀ j, j < n → QU j ma) (hi : ¬ n1 ≤ i3) (hx : x_run_t n1 fu 31 mi ma i2 i3 0 = some x) : ∃ fu2 m, x_run_t n1 fu2 31 m ma i2 (i3 + 1) 0 = some x ∧ m 4 = mi 4 + 1 ∧ (∀ k, k ≠ 4 → k ≠ 73 → m k = mi k) := by
  cases fu with
  | zero =>
    rw [x_run_t] at hx
    cases hx
  | succ fu =>
    rw [x_run_t, if_pos rfl] at hx
    have hx := (ax_some hx).2
    rw [if_neg hi] at hx
    obtain ⟨m1, a1, r1, y1, hx1⟩ := bo_some hx
    obtain ⟨q1, q2⟩ := goes_idle hl y1
    rw [q1, q2] at hx1
    obtain ⟨m2, a2, r2, y2, hx2⟩ := bo_some hx1
    obtain ⟨q3, q4⟩ := comes_idle hW hw y2
    rw [q3, q4] at hx2
    obtain ⟨m3, a3, r3, y3, hx3⟩ := bo_some hx2
    obtain ⟨q5, q6⟩ := answers_idle h.1.1 h.1.2.1 h40 h41 y3
    rw [q5, q6] at hx3
    obtain ⟨m4, a4, r4, y4, hx4⟩ := bo_some hx3
    obtain ⟨q7, q8⟩ := hears_idle h.2.2.2 ha y4
    rw [q7, q8] at hx4
    obtain ⟨fu2, hx5⟩ := run55_idle h.1.1 h.1.2.1 h61 n 0 fu (by omega) (by rw [show nI 0 = (0 : Int32) by decide]; exact hx4)
    obtain ⟨fu3, m, v1, v2⟩ := run93_idle h.1.1 (fun j hj => (h.2.1 j hj).2.1.2.1) hq n 0 fu2 _ h.1.2.1 (by omega) (by rw [show nI 0 = (0 : Int32) by decide]; exact hx5)
    refine ⟨fu3, _, v1, by rw [upd_a, v2 4 (by decide)], fun k h1 h2 => by rw [upd_b h1, v2 k h2]⟩

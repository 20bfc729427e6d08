theorem insS_sorted {e : S4} : ∀ {l : List S4}, l.Pairwise (fun x y => x.1 ≤ y.1) → (insS e l).Pairwise (fun x y => x.1 ≤ y.1)
  | [], _ => by
    rw [insS]
    exact List.pairwise_singleton _ _
  | d :: t, h => by
    rw [insS]
    have h' := List.pairwise_cons.mp h
    by_cases c : d.1 ≤ e.1
    · rw [if_pos c]
      refine List.pairwise_cons.mpr ⟨fun x hx => ?_, insS_sorted h'.2⟩
      rcases insS_mem.mp hx with w | w
      · rw [w]; exact c
      · exact h'.1 x w
    · rw [if_neg c]
      have ce : e.1 ≤ d.1 := Int32.le_of_lt (Int32.not_le.mp c)
      refine List.pairwise_cons.mpr ⟨fun x hx => ?_, h⟩
      rcases List.mem_cons.mp hx with w | w
      · rw [w]; exact ce
      · exact Int32.le_trans ce (h'.1 x w)
theorem insA_sorted {e : A6} : ∀ {l : List A6}, l.Pairwise (fun x y => x.1 ≤ y.1) → (insA e l).Pairwise (fun x y => x.1 ≤ y.1)
  | [], _ => by
    rw [insA]
    exact List.pairwise_singleton _ _
  | d :: t, h => by
    rw [insA]
    have h' := List.pairwise_cons.mp h
    by_cases c : d.1 ≤ e.1
    · rw [if_pos c]
      refine List.pairwise_cons.mpr ⟨fun x hx => ?_, insA_sorted h'.2⟩
      rcases insA_mem.mp hx with w | w
      · rw [w]; exact c
      · exact h'.1 x w
    · rw [if_neg c]
      have ce : e.1 ≤ d.1 := Int32.le_of_lt (Int32.not_le.mp c)
      refine List.pairwise_cons.mpr ⟨fun x hx => ?_, h⟩
      rcases List.mem_cons.mp hx with w | w
      · rw [w]; exact ce
      · exact Int32.le_trans ce (h'.1 x w)
theorem srtS_sorted (l : List S4) : (srtS l).Pairwise (fun x y => x.1 ≤ y.1) := by
  have key : ∀ (r : List S4), (srtS r.reverse).Pairwise (fun x y => x.1 ≤ y.1) := by
    intro r
    induction r with
    | nil => exact List.Pairwise.nil
    | cons e t ih =>
      rw [List.reverse_cons, srtS_snoc]
      exact insS_sorted ih
  have := key l.reverse
  rw [List.reverse_reverse] at this
  exact this
theorem srtA_sorted (l : List A6) : (srtA l).Pairwise (fun x y => x.1 ≤ y.1) := by
  have key : ∀ (r : List A6), (srtA r.reverse).Pairwise (fun x y => x.1 ≤ y.1) := by
    intro r
    induction r with
    | nil => exact List.Pairwise.nil
    | cons e t ih =>
      rw [List.reverse_cons, srtA_snoc]
      exact insA_sorted ih
  have := key l.reverse
  rw [List.reverse_reverse] at this
  exact this
theorem fdS_le {l : List S4} {e : S4} (h : e ∈ l) : fdS (srtS l) ≤ e.1 := by
  have hm := (srtS_mem l).mpr h
  have hs := srtS_sorted l
  cases hz : srtS l with
  | nil =>
    rw [hz] at hm
    cases hm
  | cons d t =>
    rw [hz] at hm hs
    rcases List.mem_cons.mp hm with w | w
    · rw [w]
      exact Int32.le_refl _
    · exact (List.pairwise_cons.mp hs).1 e w
theorem fdA_le {l : List A6} {e : A6} (h : e ∈ l) : fdA (srtA l) ≤ e.1 := by
  have hm := (srtA_mem l).mpr h
  have hs := srtA_sorted l
  cases hz : srtA l with
  | nil =>
    rw [hz] at hm
    cases hm
  | cons d t =>
    rw [hz] at hm hs
    rcases List.mem_cons.mp hm with w | w
    · rw [w]
      exact Int32.le_refl _
    · exact (List.pairwise_cons.mp hs).1 e w
theorem min_le {a b : Int32} : (if a < b then a else b) ≤ a ∧ (if a < b then a else b) ≤ b := by
  by_cases c : a < b
  · rw [if_pos c]
    exact ⟨Int32.le_refl _, Int32.le_of_lt c⟩
  · rw [if_neg c]
    exact ⟨Int32.not_lt.mp c, Int32.le_refl _⟩
theorem nextDue_le {go : Option S4} {gw : List S4} {ga : List A6} : xc_nextDue go gw ga ≤ fdS gw ∧ xc_nextDue go gw ga ≤ fdA ga ∧ ∀ c, go = some c → xc_nextDue go gw ga ≤ c.1 := by
  unfold xc_nextDue
  simp only [bd_eq]
  have m := min_le (a := fdA ga) (b := fdS gw)
  cases go with
  | none => exact ⟨m.2, m.1, fun c w => by cases w⟩
  | some c =>
    show (if c.1 < _ then c.1 else _) ≤ _ ∧ (if c.1 < _ then c.1 else _) ≤ _ ∧ _
    have m2 := min_le (a := c.1) (b := if fdA ga < fdS gw then fdA ga else fdS gw)
    refine ⟨Int32.le_trans m2.2 m.2, Int32.le_trans m2.2 m.1, fun d w => ?_⟩
    rw [← Option.some.inj w]
    exact m2.1
theorem nb1_spec {nw : Int32} {FV : FVt} : ∀ (m j : Nat) (so : Int32), ∃ so2, xc_nb1 nw FV m j so = (if nw + 1 < so2 then so2 else nw + 1) ∧ so2 ≤ so ∧ ∀ i, j ≤ i → i < j + m → so2 ≤ orn (FV i 4 9) ∧ so2 ≤ orn (FV i 1 3)
  | 0, j, so => by
    rw [xc_nb1]
    simp only [bd_eq]
    exact ⟨so, rfl, Int32.le_refl _, fun i h1 h2 => by omega⟩
  | m + 1, j, so => by
    rw [xc_nb1]
    simp only [bd_eq]
    have m1 := min_le (a := orn (FV j 4 9)) (b := so)
    have m2 := min_le (a := orn (FV j 1 3)) (b := if orn (FV j 4 9) < so then orn (FV j 4 9) else so)
    obtain ⟨so2, h1, h2, h3⟩ := nb1_spec (nw := nw) (FV := FV) m (j + 1) (if orn (FV j 1 3) < (if orn (FV j 4 9) < so then orn (FV j 4 9) else so) then orn (FV j 1 3) else (if orn (FV j 4 9) < so then orn (FV j 4 9) else so))
    refine ⟨so2, h1, Int32.le_trans h2 (Int32.le_trans m2.2 m1.2), fun i h4 h5 => ?_⟩
    by_cases e : i = j
    · rw [e]
      exact ⟨Int32.le_trans h2 (Int32.le_trans m2.2 m1.1), Int32.le_trans h2 m2.1⟩
    · exact h3 i (by omega) (by omega)
theorem orn_ge {x : Int32} {V : Int} (h : V ≤ (orn x).toInt) : x = -1 ∨ V ≤ x.toInt := by
  unfold orn at h
  by_cases c : x = -1
  · exact Or.inl c
  · rw [if_neg c] at h
    exact Or.inr h
/-- a tick, whatever is due -/
theorem tick_pair {n : Nat} {FX : Nat → Nat → Int32} {T : Int} {ov tf : Nat → Int32} {FV : FVt} {FJ : FJt} {go : Option S4} {gq : List S3} {GA : List A6} {GW : List S4} {n1 x2 en i2 i3 i4 : Int32} {x : XT} {mi : Nat → Int32} {ma : Nat → Nat → Int32} {fu fc : Nat} (h : BRq n FX T ov tf FV FJ go gq GA mi ma) (hW : WQ GW mi ma) (hT : T = (mi 4).toInt) (hi3 : ¬ n1 ≤ i3) (hi4 : ¬ n1 ≤ i4) (hen : ¬ en ≤ mi 4) (hx : x_run_t n1 fu 31 mi ma i2 i3 0 = some x) : ∃ fu2 ov2 tf2 FV2 FJ2 go2 gq2 GA2 GW2 m a, x_run_t n1 fu2 31 (upd m 4 (m 4 + 1)) a i2 (i3 + 1) 0 = some x ∧ xc_runO n FX n1 x2 en (fc + 1) i4 (mi 4) ov tf FV FJ go gq (srtS GW) (srtA GA) = xc_afS n en (xc_runO n FX n1 x2 en fc) (mi 4) i4 ov2 tf2 FV2 FJ2 go2 gq2 (srtS GW2) (srtA GA2) ∧ BRq n FX (T + 1) ov2 tf2 FV2 FJ2 go2 gq2 GA2 m a ∧ WQ GW2 m a ∧ (∀ j, j < n → QU j a) ∧ (∀ j, j < n → a 41 j = 0) ∧ m 4 = mi 4 := by
  cases fu with
  | zero =>
    rw [x_run_t] at hx
    cases hx
  | succ fu =>
    rw [x_run_t, if_pos rfl] at hx
    have hx := (ax_some hx).2
    rw [if_neg hi3] at hx
    obtain ⟨m1, a1, r1, y1, hx1⟩ := bo_some hx
    obtain ⟨go1, gq1, GW1, z1, z2, z3, z4, z5⟩ := goes_pair h.2.2.1 hW y1
    have e14 : m1 4 = mi 4 := z4.1 4 (by decide)
    have hB1 : BRq n FX T ov tf FV FJ go1 gq1 GA m1 a1 := by
      obtain ⟨⟨h1, h2⟩, h3, h4, h5⟩ := h
      refine ⟨⟨h1, by rw [z4.1 32 (by decide)]; exact h2.1, ZR_all h2.2 (fun k k1 k2 => z4.2 k (fun w => by revert w; simp only [List.mem_cons, List.not_mem_nil, or_false]; omega))⟩, fun j hj => ?_, z2, AQ_keep h5 (z4.1 17 (by decide)) (z4.1 18 (by decide)) (fun k hk => z4.2 k (fun w => by revert hk w; simp only [List.mem_cons, List.not_mem_nil, or_false]; omega)) (fun f => by rw [z4.2 46 (by decide)]; exact Int.le_refl _)⟩
      obtain ⟨q1, q2, q3⟩ := h3 j hj
      exact ⟨q1, FQ_same q2 e14 (fun k k1 k2 => by rw [z4.2 k (fun w => by revert w; simp only [List.mem_cons, List.not_mem_nil, or_false]; omega)]) (fun i _ => by rw [z4.2 71 (by decide)]) (fun i _ => by rw [z4.2 72 (by decide)]), RVq_keep q3 (fun k hk => by rw [z4.2 k (fun w => by revert hk w; simp only [List.mem_cons, List.not_mem_nil, or_false]; omega)]) (fun i _ => by rw [z4.2 36 (by decide)]) (by rw [z4.2 46 (by decide)]; exact Int.le_refl _)⟩
    obtain ⟨m2, a2, r2, y2, hx2⟩ := bo_some hx1
    obtain ⟨ov2, FV2, FJ2, GA2, u1, u2, u3, u4, u5⟩ := comes_pair hB1 z3 y2
    rw [e14] at u1 u3
    have e24 : m2 4 = mi 4 := (u4.1 4 (by decide)).trans e14
    obtain ⟨m3, a3, r3, y3, hx3⟩ := bo_some hx2
    obtain ⟨FV3, FJ3, GA3, v1, v2, v3, v4⟩ := answers_pair (gw := srtS (GW1.filter (fun e => ! decide (e.1 = mi 4)))) u2 y3
    rw [e24] at v1
    have e34 : m3 4 = mi 4 := (v3.1 4 (by decide)).trans e24
    obtain ⟨m4, a4, r4, y4, hx4⟩ := bo_some hx3
    obtain ⟨ov4, tf4, FV4, FJ4, go4, gq4, w1, w2, w3, w4⟩ := hears_pair (gw := srtS (GW1.filter (fun e => ! decide (e.1 = mi 4)))) v2 (by rw [e34]; exact hT) y4
    rw [e34] at w1 w2
    have e44 : m4 4 = mi 4 := (w3.1 4 (by decide)).trans e34
    obtain ⟨fu5, ov5, tf5, FV5, FJ5, go5, gq5, m5, a5, p1, p2, p3, p4⟩ := flT_pair (en := en) (i4 := i4) (kk := xc_runO n FX n1 x2 en fc) (gw := srtS (GW1.filter (fun e => ! decide (e.1 = mi 4)))) (ga := srtA (GA3.filter (fun e => ! decide (e.1 = mi 4)))) n 0 fu ov4 tf4 FV4 FJ4 go4 gq4 m4 a4 (by omega) w2 (by rw [show nI 0 = (0 : Int32) by decide]; exact hx4)
    rw [e44] at p2
    have e54 : m5 4 = mi 4 := (p4.1 4 (by decide)).trans e44
    have hB5 : BRq n FX (T + 1) ov5 tf5 FV5 FJ5 go5 gq5 (GA3.filter (fun e => ! decide (e.1 = mi 4))) m5 a5 := BRq_tick p3 (by omega) (fun _ _ _ => rfl) (Int.le_refl _)
    obtain ⟨fu6, ov6, tf6, FV6, FJ6, go6, gq6, m6, a6, s1, s2, s3, s4, s5⟩ := flS_pair (en := en) (i4 := i4) (kk := xc_runO n FX n1 x2 en fc) (gw := srtS (GW1.filter (fun e => ! decide (e.1 = mi 4)))) (ga := srtA (GA3.filter (fun e => ! decide (e.1 = mi 4)))) n 0 fu5 ov5 tf5 FV5 FJ5 go5 gq5 m5 a5 (by omega) hB5 (by rw [e54, hT]) (fun i hi => by omega) (by rw [show nI 0 = (0 : Int32) by decide]; exact p1)
    rw [e54] at s2
    have e64 : m6 4 = mi 4 := (s5.1 4 (by decide)).trans e54
    have hH : HFR m3 a3 m6 a6 := HFR_trans w3 (HFR_trans p4 s5)
    refine ⟨fu6, ov6, tf6, FV6, FJ6, go6, gq6, _, GW1.filter (fun e => ! decide (e.1 = mi 4)), m6, a6, s1, ?_, s3, ?_, s4, fun j hj => ?_, e64⟩
    · rw [xc_runO, if_neg hi4, if_neg hen]
      simp only [bd_eq]
      rw [z1]
      simp only []
      rw [u1]
      simp only []
      rw [v1]
      simp only []
      rw [w1]
      simp only []
      rw [p2, s2]
    · have hW3 : WQ (GW1.filter (fun e => ! decide (e.1 = mi 4))) m3 a3 := WQ_keep u3 (v3.1 10 (by decide)) (v3.1 11 (by decide)) (fun k hk => v3.2 k (by revert hk; simp only [List.mem_cons, List.not_mem_nil, or_false]; omega)) (fun f => by rw [v3.2 46 (by omega)]; exact Int.le_refl _)
      exact WQ_keep hW3 (hH.1 10 (by decide)) (hH.1 11 (by decide)) (fun k hk => hH.2.1 k (by revert hk; simp only [List.mem_cons, List.not_mem_nil, or_false]; omega) (fun w => by revert hk w; simp only [List.mem_cons, List.not_mem_nil, or_false]; omega)) hH.2.2
    · rw [hH.2.1 41 (by decide) (by decide)]
      exact v4 j hj

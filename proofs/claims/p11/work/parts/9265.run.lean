theorem idle_go {n : Nat} {FX : Nat → Nat → Int32} {T V : Int} {ov tf : Nat → Int32} {FV : FVt} {FJ : FJt} {go : Option S4} {gq : List S3} {GA : List A6} {GW : List S4} {n1 i2 : Int32} {N : Nat} {x : XT} {ma : Nat → Nat → Int32} (hN : n1 = nI N) (hN2 : N ≤ 20000) (hV2 : V ≤ 100000000) (hw : ∀ e, e ∈ GW → V ≤ e.1.toInt) (ha : ∀ e, e ∈ GA → V ≤ e.1.toInt) (h40 : ∀ j, j < n → (ma 40 j = -1 ∨ V ≤ (ma 40 j).toInt)) (h41 : ∀ j, j < n → ma 41 j = 0) (h61 : ∀ j, j < n → (ma 61 j = -1 ∨ V ≤ (ma 61 j).toInt)) (hq : ∀ j, j < n → QU j ma) : ∀ (d s fu : Nat) (mi : Nat → Int32), BRq n FX T ov tf FV FJ go gq GA mi ma → WQ GW mi ma → (mi 4).toInt + d = V → 0 ≤ (mi 4).toInt → s + d ≤ N → (mi 6 = 0 ∨ V ≤ (mi 5).toInt) → x_run_t n1 fu 31 mi ma i2 (nI s) 0 = some x → ∃ fu2 m, x_run_t n1 fu2 31 m ma i2 (nI (s + d)) 0 = some x ∧ (m 4).toInt = V ∧ (∀ k, k ≠ 4 → k ≠ 73 → m k = mi k)
  | 0, s, fu, mi, h, hW, hV, h0, hs, hl, hx => ⟨fu, mi, hx, by omega, fun _ _ _ => rfl⟩
  | d + 1, s, fu, mi, h, hW, hV, h0, hs, hl, hx => by
    have ne : ∀ y : Int32, V ≤ y.toInt → ¬ y = mi 4 := fun y hy w => by
      rw [w] at hy
      omega
    have ne1 : ∀ y : Int32, (y = -1 ∨ V ≤ y.toInt) → ¬ y = mi 4 := fun y hy w => by
      rcases hy with z | z
      · rw [z] at w
        have := congrArg Int32.toInt w
        rw [show (-1 : Int32).toInt = -1 by decide] at this
        omega
      · exact ne y z w
    obtain ⟨fu2, m, y1, y2, y3⟩ := tick_idle h hW (hl.imp id (ne _)) (fun e he => ne _ (hw e he)) (fun e he => ne _ (ha e he)) (fun j hj => ne1 _ (h40 j hj)) h41 (fun j hj => ne1 _ (h61 j hj)) hq (by
      rw [hN]
      intro w
      have := (nIle (by omega) (by omega)).mp w
      omega) hx
    have t1 : (m 4).toInt = (mi 4).toInt + 1 := by
      rw [y2]
      exact ti_add1 (by omega)
    rw [nI_1] at y1
    obtain ⟨fu3, m3, v1, v2, v3⟩ := idle_go hN hN2 hV2 hw ha h40 h41 h61 hq d (s + 1) fu2 m (BRq_tick h (Int.le_refl _) y3 (by omega)) (WQ_tick hW y3) (by omega) (by omega) (by omega) (by rw [y3 6 (by decide) (by decide), y3 5 (by decide) (by decide)]; exact hl) y1
    rw [show s + 1 + d = s + (d + 1) by omega] at v1
    exact ⟨fu3, m3, v1, v2, fun k h1 h2 => (v3 k h1 h2).trans (y3 k h1 h2)⟩
theorem run_go {n : Nat} {FX : Nat → Nat → Int32} {n1 x2 en : Int32} {N : Nat} (hN : n1 = nI N) (hN2 : N ≤ 20000) (he2 : en.toInt ≤ 100000000) : ∀ (R c s fu fc : Nat) (ov tf : Nat → Int32) (FV : FVt) (FJ : FJt) (go : Option S4) (gq : List S3) (GA : List A6) (GW : List S4) (mi : Nat → Int32) (ma : Nat → Nat → Int32) (m : Nat → Int32) (a : Nat → Nat → Int32) (r : Int32), s + R = N → c ≤ s → R < fc → BRq n FX (mi 4).toInt ov tf FV FJ go gq GA mi ma → WQ GW mi ma → en.toInt = (mi 4).toInt + R → 0 ≤ (mi 4).toInt → x_run_t n1 fu 31 mi ma x2 (nI s) 0 = some (m, a, r) → ∃ ov2 tf2 FV2 FJ2 go2 gq2 GA2 GW2, xc_runO n FX n1 x2 en fc (nI c) (mi 4) ov tf FV FJ go gq (srtS GW) (srtA GA) = (m 4, ov2, tf2, FV2, FJ2, go2, gq2, srtS GW2, srtA GA2, r) ∧ BRq n FX (m 4).toInt ov2 tf2 FV2 FJ2 go2 gq2 GA2 m a ∧ WQ GW2 m a := by
  intro R
  induction R using Nat.strongRecOn with
  | _ R ih =>
    intro c s fu fc ov tf FV FJ go gq GA GW mi ma m a r hs hc hfc h hW hen h0 hx
    obtain ⟨fc', hf'⟩ : ∃ k, fc = k + 1 := ⟨fc - 1, by omega⟩
    subst hf'
    rcases Nat.eq_zero_or_pos R with hz | hp
    · -- the end
      subst hz
      cases fu with
      | zero =>
        rw [x_run_t] at hx
        cases hx
      | succ fu =>
        rw [x_run_t, if_pos rfl] at hx
        have hx := (ax_some hx).2
        simp only [bd_eq] at hx
        rw [hN, show s = N by omega, if_pos (Int32.le_refl _)] at hx
        have hx := Option.some.inj hx
        have q1 : mi = m := congrArg Prod.fst hx
        have q2 : ma = a := congrArg (fun x => x.2.1) hx
        have q3 : mi 26 - x2 = r := congrArg (fun x => x.2.2) hx
        subst q1 q2 q3
        have e11 : ov 11 = mi 26 := h.2.2.1.1.2.1.2.1
        refine ⟨ov, tf, FV, FJ, go, gq, GA, GW, ?_, h, hW⟩
        rw [xc_runO]
        simp only [bd_eq]
        rw [e11]
        by_cases c1 : n1 ≤ nI c
        · rw [if_pos c1]
        · rw [if_neg c1, if_pos (Int32.le_iff_toInt_le.mpr (by omega))]
    · obtain ⟨fu2, ov2, tf2, FV2, FJ2, go2, gq2, GA2, GW2, m2, a2, y1, y2, y3, y4, y5, y6, y7⟩ := tick_pair (x2 := x2) (en := en) (i4 := nI c) (fc := fc') h hW rfl (by
        rw [hN]
        intro w
        have := (nIle (by omega) (by omega)).mp w
        omega) (by
        rw [hN]
        intro w
        have := (nIle (by omega) (by omega)).mp w
        omega) (fun w => by
        have := Int32.le_iff_toInt_le.mp w
        omega) hx
      rw [nI_1] at y1
      -- where the class goes on
      obtain ⟨so2, b1, b2, b3⟩ := nb1_spec (nw := mi 4) (FV := FV2) n 0 (if xc_nextDue go2 (srtS GW2) (srtA GA2) < en then xc_nextDue go2 (srtS GW2) (srtA GA2) else en)
      have hmn := min_le (a := xc_nextDue go2 (srtS GW2) (srtA GA2)) (b := en)
      obtain ⟨v, hv⟩ : ∃ v, v = xc_nextBusy n (mi 4) FV2 go2 (srtS GW2) (srtA GA2) en := ⟨_, rfl⟩
      have hv2 : v = (if mi 4 + 1 < so2 then so2 else mi 4 + 1) := by
        rw [hv]
        unfold xc_nextBusy
        simp only [bd_eq]
        exact b1
      have t1 : (mi 4 + 1).toInt = (mi 4).toInt + 1 := ti_add1 (by omega)
      have so_en := Int32.le_iff_toInt_le.mp (Int32.le_trans b2 hmn.2)
      have so_nd := Int32.le_trans b2 hmn.1
      have hnd := nextDue_le (go := go2) (gw := srtS GW2) (ga := srtA GA2)
      have hvr : (mi 4).toInt + 1 ≤ v.toInt ∧ v.toInt ≤ en.toInt ∧ ((mi 4).toInt + 1 < v.toInt → v = so2) := by
        rw [hv2]
        by_cases c1 : mi 4 + 1 < so2
        · have := Int32.lt_iff_toInt_lt.mp c1
          rw [if_pos c1]
          exact ⟨by omega, so_en, fun _ => rfl⟩
        · rw [if_neg c1, t1]
          exact ⟨Int.le_refl _, by omega, fun w => by omega⟩
      have haf : xc_afS n en (xc_runO n FX n1 x2 en fc') (mi 4) (nI c) ov2 tf2 FV2 FJ2 go2 gq2 (srtS GW2) (srtA GA2) = xc_runO n FX n1 x2 en fc' (nI (c + 1)) v ov2 tf2 FV2 FJ2 go2 gq2 (srtS GW2) (srtA GA2) := by
        unfold xc_afS
        simp only [bd_eq]
        rw [← hv, nI_1]
      obtain ⟨m3, hm3⟩ : ∃ y, y = upd m2 4 (m2 4 + 1) := ⟨_, rfl⟩
      rw [← hm3] at y1
      have k3 : ∀ k, k ≠ 4 → k ≠ 73 → m3 k = m2 k := fun k hk _ => by rw [hm3]; exact upd_b hk
      have t3 : (m3 4).toInt = (mi 4).toInt + 1 := by rw [hm3, upd_a, y7, t1]
      have hB3 : BRq n FX ((mi 4).toInt + 1) ov2 tf2 FV2 FJ2 go2 gq2 GA2 m3 a2 := BRq_tick y3 (Int.le_refl _) k3 (by rw [t3, y7]; omega)
      have hW3 : WQ GW2 m3 a2 := WQ_tick y4 k3
      obtain ⟨d, hd⟩ : ∃ d : Nat, (d : Int) = v.toInt - ((mi 4).toInt + 1) := ⟨(v.toInt - ((mi 4).toInt + 1)).toNat, by omega⟩
      have key : ∃ fu4 m4, x_run_t n1 fu4 31 m4 a2 x2 (nI (s + 1 + d)) 0 = some (m, a, r) ∧ (m4 4).toInt = v.toInt ∧ (∀ k, k ≠ 4 → k ≠ 73 → m4 k = m3 k) := by
        rcases Nat.eq_zero_or_pos d with z | z
        · subst z
          exact ⟨fu2, m3, y1, by omega, fun _ _ _ => rfl⟩
        · have hso : v = so2 := hvr.2.2 (by omega)
          refine idle_go (V := v.toInt) hN hN2 (by omega) (fun e he => ?_) (fun e he => ?_) (fun j hj => ?_) y6 (fun j hj => ?_) y5 d (s + 1) fu2 m3 hB3 hW3 (by omega) (by omega) (by omega) ?_ y1
          · have := Int32.le_iff_toInt_le.mp (Int32.le_trans (Int32.le_trans so_nd hnd.1) (fdS_le he))
            rw [hso]
            exact this
          · have := Int32.le_iff_toInt_le.mp (Int32.le_trans (Int32.le_trans so_nd hnd.2.1) (fdA_le he))
            rw [hso]
            exact this
          · have q := (b3 j (by omega) (by omega)).1
            have e9 : FV2 j 4 9 = a2 40 j := (y3.2.1 j hj).2.2.2.2.2.2.2.2.2.1
            rw [e9] at q
            rw [hso]
            exact orn_ge (Int32.le_iff_toInt_le.mp q)
          · have q := (b3 j (by omega) (by omega)).2
            have e9 : FV2 j 1 3 = a2 61 j := SQ_t3 (y3.2.1 j hj).2.1.1
            rw [e9] at q
            rw [hso]
            exact orn_ge (Int32.le_iff_toInt_le.mp q)
          · obtain ⟨⟨_, _, _, hNn, hSs, _⟩, _⟩ := hB3.2.2.1
            cases hgo : go2 with
            | none => exact Or.inl (hNn hgo).1
            | some cc =>
              refine Or.inr ?_
              have q := hnd.2.2 cc hgo
              have e5 : cc.1 = m3 5 := by rw [(hSs cc hgo).2]
              rw [hso, ← e5]
              exact Int32.le_iff_toInt_le.mp (Int32.le_trans so_nd q)
      obtain ⟨fu4, m4, g1, g2, g3⟩ := key
      have e4 : m4 4 = v := Int32.toInt_inj.mp g2
      have hB4 : BRq n FX (m4 4).toInt ov2 tf2 FV2 FJ2 go2 gq2 GA2 m4 a2 := BRq_tick hB3 (by omega) g3 (by omega)
      have hW4 : WQ GW2 m4 a2 := WQ_tick hW3 g3
      obtain ⟨ov5, tf5, FV5, FJ5, go5, gq5, GA5, GW5, z1, z2, z3⟩ := ih (R - 1 - d) (by omega) (c + 1) (s + 1 + d) fu4 fc' ov2 tf2 FV2 FJ2 go2 gq2 GA2 GW2 m4 a2 m a r (by omega) (by omega) (by omega) hB4 hW4 (by omega) (by omega) g1
      refine ⟨ov5, tf5, FV5, FJ5, go5, gq5, GA5, GW5, ?_, z2, z3⟩
      rw [y2, haf, ← e4]
      exact z1
/-- run, class and reference -/
theorem run_pair {n : Nat} {FX : Nat → Nat → Int32} {ov tf : Nat → Int32} {FV : FVt} {FJ : FJt} {go : Option S4} {gq : List S3} {GA : List A6} {GW : List S4} {mi m : Nat → Int32} {ma a : Nat → Nat → Int32} {n1 r : Int32} (h : BRq n FX (mi 4).toInt ov tf FV FJ go gq GA mi ma) (hW : WQ GW mi ma) (h0 : 0 ≤ (mi 4).toInt) (h1 : (mi 4).toInt ≤ 100000000) (hx : x_run n1 mi ma = some (m, a, r)) : ∃ ov2 tf2 FV2 FJ2 go2 gq2 GA2 GW2, xc_run n FX (mi 4) ov tf FV FJ go gq (srtS GW) (srtA GA) n1 = (m 4, ov2, tf2, FV2, FJ2, go2, gq2, srtS GW2, srtA GA2, r) ∧ BRq n FX (m 4).toInt ov2 tf2 FV2 FJ2 go2 gq2 GA2 m a ∧ WQ GW2 m a := by
  unfold x_run at hx
  unfold xc_run
  simp only [bd_eq] at hx ⊢
  have same : some (mi, ma, (-1 : Int32)) = some (m, a, r) → ∃ ov2 tf2 FV2 FJ2 go2 gq2 GA2 GW2, (mi 4, ov, tf, FV, FJ, go, gq, srtS GW, srtA GA, (-1 : Int32)) = (m 4, ov2, tf2, FV2, FJ2, go2, gq2, srtS GW2, srtA GA2, r) ∧ BRq n FX (m 4).toInt ov2 tf2 FV2 FJ2 go2 gq2 GA2 m a ∧ WQ GW2 m a := by
    intro w
    have w := Option.some.inj w
    have q1 : mi = m := congrArg Prod.fst w
    have q2 : ma = a := congrArg (fun x => x.2.1) w
    have q3 : (-1 : Int32) = r := congrArg (fun x => x.2.2) w
    subst q1 q2 q3
    exact ⟨ov, tf, FV, FJ, go, gq, GA, GW, rfl, h, hW⟩
  by_cases c : wi n1 1 20000 = 0
  · rw [if_pos c] at hx ⊢
    exact same hx
  · rw [if_neg c] at hx ⊢
    obtain ⟨N, n1', n2', eN⟩ := wi_run c
    have tN : n1.toInt = N := by rw [eN]; exact nI_toInt (by omega)
    have t1 : (mi 4 + n1).toInt = (mi 4).toInt + N := by rw [ti_add (x := mi 4 + n1) rfl (by omega) (by omega), tN]
    have t2 : ((100000000 : Int32) - n1).toInt = 100000000 - N := by
      rw [ti_sub (x := (100000000 : Int32) - n1) rfl (by rw [show (100000000 : Int32).toInt = 100000000 by decide]; omega) (by rw [show (100000000 : Int32).toInt = 100000000 by decide]; omega), show (100000000 : Int32).toInt = 100000000 by decide, tN]
    by_cases c2 : mi 4 + n1 ≤ 100000000
    · have c2i := Int32.le_iff_toInt_le.mp c2
      rw [show (100000000 : Int32).toInt = 100000000 by decide] at c2i
      rw [if_pos c2] at hx
      rw [if_pos (show mi 4 ≤ 100000000 - n1 from Int32.le_iff_toInt_le.mpr (by omega))]
      have e11 : ov 11 = mi 26 := h.2.2.1.1.2.1.2.1
      rw [e11]
      have fc : (n1.toInt - (0 : Int32).toInt).toNat + 1 = N + 1 := by
        rw [tN, show (0 : Int32).toInt = 0 by decide]
        omega
      rw [fc]
      have := run_go (FX := FX) (x2 := mi 26) (en := mi 4 + n1) eN n2' (by omega) N 0 0 3000000 (N + 1) ov tf FV FJ go gq GA GW mi ma m a r (by omega) (by omega) (by omega) h hW (by omega) h0 (by rw [show nI 0 = (0 : Int32) by decide]; exact hx)
      rw [show nI 0 = (0 : Int32) by decide] at this
      exact this
    · have c2i : ¬ (mi 4 + n1).toInt ≤ (100000000 : Int32).toInt := fun w => c2 (Int32.le_iff_toInt_le.mpr w)
      rw [show (100000000 : Int32).toInt = 100000000 by decide] at c2i
      rw [if_neg c2] at hx
      rw [if_neg (show ¬ mi 4 ≤ 100000000 - n1 from fun w => by
        have := Int32.le_iff_toInt_le.mp w
        omega)]
      exact same hx

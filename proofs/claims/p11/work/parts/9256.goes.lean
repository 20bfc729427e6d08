def newW (E : Nat) (mi : Nat → Int32) (a : Nat → Nat → Int32) : Nat → Nat → Int32 := va_up (va_up (va_up (va_up a 13 (upd (a 13) E (mi 4 + mi 2))) 14 (upd (a 14) E (a 7 0))) 15 (upd (a 15) E (a 8 0))) 16 (upd (a 16) E (a 9 0))
theorem newW_k {E k : Nat} {mi : Nat → Int32} {a : Nat → Nat → Int32} (h : k ∉ ([13, 14, 15, 16] : List Nat)) : newW E mi a k = a k := by
  have n : ∀ j, j ∈ ([13, 14, 15, 16] : List Nat) → k ≠ j := fun j hj e => h (e ▸ hj)
  unfold newW
  rw [va_up_ne _ _ (n 16 (by decide)), va_up_ne _ _ (n 15 (by decide)), va_up_ne _ _ (n 14 (by decide)), va_up_ne _ _ (n 13 (by decide))]
theorem newW_E {E : Nat} {mi : Nat → Int32} {a : Nat → Nat → Int32} : wE (newW E mi a) E = (mi 4 + mi 2, a 7 0, a 8 0, a 9 0) := by
  unfold wE newW
  simp (decide := true) only [va_up_self, va_up_ne, ne_eq, not_false_eq_true, upd_a]
theorem newW_j {E j : Nat} {mi : Nat → Int32} {a : Nat → Nat → Int32} (h : j ≠ E) : wE (newW E mi a) j = wE a j := by
  unfold wE newW
  simp (decide := true) only [va_up_self, va_up_ne, ne_eq, not_false_eq_true, upd_b h]
theorem goes33 {mi : Nat → Int32} {ma : Nat → Nat → Int32} : ∃ z, x_goes_33 mi ma = x_goes_83 (upd mi 12 z) ma := by
  unfold x_goes_33
  simp only [bd_eq]
  repeat' split
  all_goals exact ⟨_, rfl⟩
/-- what goes leaves as it was -/
def GFR (mi : Nat → Int32) (ma : Nat → Nat → Int32) (m : Nat → Int32) (a : Nat → Nat → Int32) : Prop := (∀ k, k ∉ ([5, 6, 10, 11, 12] : List Nat) → m k = mi k) ∧ ∀ k, k ∉ ([7, 8, 9, 13, 14, 15, 16] : List Nat) → a k = ma k
theorem goes_pair {ov tf : Nat → Int32} {go : Option S4} {gq : List S3} {GW : List S4} {mi m : Nat → Int32} {ma a : Nat → Nat → Int32} {r : Int32} (hR : RR ov tf go gq mi ma) (hW : WQ GW mi ma) (hx : x_goes mi ma = some (m, a, r)) : ∃ go2 gq2 GW2, xc_moveLink ov go gq (srtS GW) (mi 4) = (go2, gq2, srtS GW2) ∧ RR ov tf go2 gq2 m a ∧ WQ GW2 m a ∧ GFR mi ma m a ∧ (GW2 = GW ∨ ∃ e, GW2 = GW ++ [e]) := by
  unfold x_goes at hx
  obtain ⟨⟨hMB, cl, hDW, _⟩, hx⟩ := ax_some hx
  simp only [bd_eq] at hx
  obtain ⟨⟨hA, hB, hC, hN, hS, hL⟩, hq, n1, n2⟩ := hR
  have same : mi = m → ma = a → (xc_moveLink ov go gq (srtS GW) (mi 4) = (go, gq, srtS GW)) → ∃ go2 gq2 GW2, xc_moveLink ov go gq (srtS GW) (mi 4) = (go2, gq2, srtS GW2) ∧ RR ov tf go2 gq2 m a ∧ WQ GW2 m a ∧ GFR mi ma m a ∧ (GW2 = GW ∨ ∃ e, GW2 = GW ++ [e]) := by
    intro q1 q2 q3
    subst q1 q2
    exact ⟨go, gq, GW, q3, ⟨⟨hA, hB, hC, hN, hS, hL⟩, hq, n1, n2⟩, hW, ⟨fun _ _ => rfl, fun _ _ => rfl⟩, Or.inl rfl⟩
  cases go with
  | none =>
    obtain ⟨l6, lq⟩ := hN rfl
    rw [if_pos l6] at hx
    have hx := Option.some.inj hx
    exact same (congrArg Prod.fst hx) (congrArg (fun x => x.2.1) hx) rfl
  | some c =>
    obtain ⟨l6, lc⟩ := hS c rfl
    have e6 : (mi 6).toInt = ((gq.length + 1 : Nat) : Int) := by rw [l6]; exact nI_toInt (by omega)
    rw [if_neg (fun w => by
      have := congrArg Int32.toInt w
      rw [e6, show (0 : Int32).toInt = 0 by decide] at this
      omega)] at hx
    have c1 : c.1 = mi 5 := by rw [lc]
    by_cases h5 : mi 5 = mi 4
    · rw [if_pos h5] at hx
      have hlen : GW.length ≤ 1001 := by
        obtain ⟨⟨w1, w2, w3⟩, _⟩ := hW
        rcases Nat.eq_zero_or_pos GW.length with z | z
        · omega
        · have d := hDW.2.1 (mi 10).toInt.toNat (by omega) (by omega)
          omega
      have hcomp : ∃ mm aa, (if mi 11 = 4096 then bc (x_wayDown mi ma) (fun m53 a54 _ => x_goes_33 m53 a54) else x_goes_33 mi ma) = x_goes_33 mm aa ∧ WQ GW mm aa ∧ (mm 11).toInt < 4096 ∧ (∀ k, k ≠ 10 → k ≠ 11 → mm k = mi k) ∧ (∀ k, k ∉ ([13, 14, 15, 16] : List Nat) → aa k = ma k) := by
        by_cases c : mi 11 = 4096
        · rw [if_pos c]
          obtain ⟨aa, x1, x2, x3⟩ := WQ_down hW
          rw [x1, bc_eq]
          refine ⟨_, _, rfl, x2, ?_, fun k e1 e2 => by rw [upd_b e2, upd_b e1], x3⟩
          rw [upd_a, nI_toInt (by omega)]
          omega
        · rw [if_neg c]
          refine ⟨mi, ma, rfl, hW, ?_, fun _ _ _ => rfl, fun _ _ => rfl⟩
          have z := hW.1
          have : (mi 11).toInt ≠ 4096 := fun w => c (Int32.toInt_inj.mp (by rw [w]; decide))
          omega
      obtain ⟨mm, aa, y1, y2, y3, y4, y5⟩ := hcomp
      rw [y1] at hx
      obtain ⟨z, hz⟩ := goes33 (mi := mm) (ma := aa)
      rw [hz] at hx
      obtain ⟨E, hE⟩ : ∃ E, E = (mm 11).toInt.toNat := ⟨_, rfl⟩
      have h11 : mm 11 = nI E := by
        rw [hE]
        exact nIof (by have := y2.1; omega)
      have n9 := n1 c rfl
      have a7 : aa 7 = ma 7 := y5 7 (by decide)
      have a8 : aa 8 = ma 8 := y5 8 (by decide)
      have a9 : aa 9 = ma 9 := y5 9 (by decide)
      have h90 : aa 9 0 = 0 ∨ aa 9 0 = 1 := by
        rw [a9]
        have : c.2.2.2 = ma 9 0 := by rw [lc]
        rw [← this]
        exact n9.2
      have hq9 : ∀ j, j < gq.length → ma 9 (j + 1) = 0 ∨ ma 9 (j + 1) = 1 := fun j hj => by
        have g1 := hL j _ (List.getElem?_eq_getElem hj)
        have g2 := (n2 gq[j] (List.getElem_mem hj)).2
        rw [g1] at g2
        exact g2
      obtain ⟨mx, hmx⟩ : ∃ y, y = upd (upd (upd mm 12 z) 11 (nI (E + 1))) 6 (nI gq.length) := ⟨_, rfl⟩
      have h83 : x_goes_83 (upd mm 12 z) aa = x_goes_168 102 mx (newW E (upd mm 12 z) aa) 0 := by
        unfold x_goes_83
        simp only [bd_eq]
        simp (decide := true) only [upd_b, ne_eq, not_false_eq_true]
        rw [h11, nI_clamp (show E < 2 ^ 31 by omega), show (0 : Int32).toNatClampNeg = 0 by decide]
        simp (decide := true) only [va_up_ne, ne_eq, not_false_eq_true]
        rw [nar01 h90, nI_1, y4 6 (by decide) (by decide), l6]
        have e1 : nI (gq.length + 1) - 1 = nI gq.length := by
          rw [nI_pred]
        rw [e1, hmx]
        unfold newW
        simp (decide := true) only [upd_b, ne_eq, not_false_eq_true]
      have x6 : mx 6 = nI gq.length := by rw [hmx, upd_a]
      have hw9 : newW E (upd mm 12 z) aa 9 = ma 9 := by rw [newW_k (by decide), a9]
      have hg := goes168 (mi := mx) (L := gq.length) hq x6 gq.length 0 102 (newW E (upd mm 12 z) aa) (by omega) (by omega) (by rw [hw9]; exact hq9)
      rw [show nI 0 = (0 : Int32) by decide] at hg
      rw [h83, hg] at hx
      have hx := Option.some.inj hx
      have q1 : upd mx 5 (mx 4 + mx 0) = m := congrArg Prod.fst hx
      have q2 := congrArg (fun x => x.2.1) hx
      dsimp only at q2
      have w7 : newW E (upd mm 12 z) aa 7 = ma 7 := by rw [newW_k (by decide), a7]
      have w8 : newW E (upd mm 12 z) aa 8 = ma 8 := by rw [newW_k (by decide), a8]
      rw [w7, w8, hw9] at q2
      have mk : ∀ k, k ∉ ([5, 6, 10, 11, 12] : List Nat) → m k = mi k := fun k hk => by
        have n : ∀ j, j ∈ ([5, 6, 10, 11, 12] : List Nat) → k ≠ j := fun j hj e => hk (e ▸ hj)
        rw [← q1, upd_b (n 5 (by decide)), hmx, upd_b (n 6 (by decide)), upd_b (n 11 (by decide)), upd_b (n 12 (by decide)), y4 k (n 10 (by decide)) (n 11 (by decide))]
      have ak : ∀ k, k ∉ ([7, 8, 9, 13, 14, 15, 16] : List Nat) → a k = ma k := fun k hk => by
        have n : ∀ j, j ∈ ([7, 8, 9, 13, 14, 15, 16] : List Nat) → k ≠ j := fun j hj e => hk (e ▸ hj)
        rw [← q2, va_up_ne _ _ (n 9 (by decide)), va_up_ne _ _ (n 8 (by decide)), va_up_ne _ _ (n 7 (by decide)), newW_k (fun w => hk (by revert w; exact sub_of (by decide) k)), y5 k (fun w => hk (by revert w; exact sub_of (by decide) k))]
      have aw : ∀ k, k ∈ ([13, 14, 15, 16] : List Nat) → a k = newW E (upd mm 12 z) aa k := fun k hk => by
        have n : ∀ j, j ∈ ([7, 8, 9] : List Nat) → k ≠ j := fun j hj e => by rw [e] at hk; revert hj hk; simp only [List.mem_cons, List.not_mem_nil, or_false]; omega
        rw [← q2, va_up_ne _ _ (n 9 (by decide)), va_up_ne _ _ (n 8 (by decide)), va_up_ne _ _ (n 7 (by decide))]
      have b7 : a 7 = shL (ma 7) 0 gq.length := by rw [← q2, va_up_ne _ _ (by decide), va_up_ne _ _ (by decide), va_up_self]
      have b8 : a 8 = shL (ma 8) 0 gq.length := by rw [← q2, va_up_ne _ _ (by decide), va_up_self]
      have b9 : a 9 = shL (ma 9) 0 gq.length := by rw [← q2, va_up_self]
      have m6 : m 6 = nI gq.length := by rw [← q1, upd_b (by decide)]; exact x6
      have m5 : m 5 = mi 4 + mi 0 := by
        rw [← q1, upd_a, hmx]
        simp (decide := true) only [upd_b, ne_eq, not_false_eq_true]
        rw [y4 4 (by decide) (by decide), y4 0 (by decide) (by decide)]
      have m10 : m 10 = mm 10 := by
        rw [← q1, upd_b (by decide), hmx]
        simp (decide := true) only [upd_b, ne_eq, not_false_eq_true]
      have m11 : m 11 = nI (E + 1) := by
        rw [← q1, upd_b (by decide), hmx, upd_b (by decide), upd_a]
      have o2 : ov 2 = mi 2 := hA.2.2.1
      have o0 : ov 0 = mi 0 := hA.1
      have t4 : upd mm 12 z 4 = mi 4 := by rw [upd_b (by decide), y4 4 (by decide) (by decide)]
      have t2 : upd mm 12 z 2 = mi 2 := by rw [upd_b (by decide), y4 2 (by decide) (by decide)]
      have ce : c.2 = (ma 7 0, ma 8 0, ma 9 0) := by rw [lc]
      -- the way
      have hWn : WQ (GW ++ [(mi 4 + ov 2, c.2)]) m a := by
        obtain ⟨⟨w1, w2, w3⟩, w4⟩ := y2
        refine ⟨?_, fun k e he => ?_⟩
        · rw [m10, m11, nI_toInt (by omega), List.length_append]
          show 0 ≤ (mm 10).toInt ∧ (mm 10).toInt + ((GW.length + 1 : Nat) : Int) = ((E + 1 : Nat) : Int) ∧ ((E + 1 : Nat) : Int) ≤ 4096
          omega
        · rw [m10, wE_congr aw]
          rcases Nat.lt_or_ge k GW.length with w | w
          · rw [List.getElem?_append_left w] at he
            obtain ⟨p1, p2, p3⟩ := w4 k e he
            refine ⟨by rw [newW_j (by omega)]; exact p1, p2, ?_⟩
            rw [y5 46 (by decide)] at p3
            rw [ak 46 (by decide)]
            exact p3
          · rw [List.getElem?_append_right w] at he
            have hk : k = GW.length := by
              have := (List.getElem?_eq_some_iff.mp he).1
              simp at this
              omega
            subst hk
            rw [show GW.length - GW.length = 0 by omega] at he
            have he2 := (Option.some.inj he).symm
            subst he2
            have eK : (mm 10).toInt.toNat + GW.length = E := by omega
            rw [eK, newW_E, t4, t2, a7, a8, a9, o2, ce]
            refine ⟨rfl, ?_, ?_⟩
            · have := n9.2
              rw [show c.2.2.2 = ma 9 0 by rw [ce]] at this
              exact this
            · have := n9.1
              rw [show c.2.2.1 = ma 8 0 by rw [ce], show c.2.1 = ma 7 0 by rw [ce]] at this
              rw [ak 46 (by decide)]
              exact this
      have hA2 : ov 0 = m 0 ∧ ov 1 = m 1 ∧ ov 2 = m 2 ∧ ov 3 = m 3 := by
        rw [mk 0 (by decide), mk 1 (by decide), mk 2 (by decide), mk 3 (by decide)]
        exact hA
      have hB2 : ov 10 = m 30 ∧ ov 11 = m 26 ∧ ov 12 = m 27 ∧ ov 13 = m 28 ∧ ov 14 = m 29 := by
        rw [mk 30 (by decide), mk 26 (by decide), mk 27 (by decide), mk 28 (by decide), mk 29 (by decide)]
        exact hB
      have hC2 : ∀ i, i < 64 → tf i = a 31 i := by
        rw [ak 31 (by decide)]
        exact hC
      have hmv : xc_moveLink ov (some c) gq (srtS GW) (mi 4) = lm gq (none, gq, srtS (GW ++ [(mi 4 + ov 2, c.2)])) (fun e t => (some (mi 4 + ov 0, e), t, srtS (GW ++ [(mi 4 + ov 2, c.2)]))) := by
        rw [srtS_snoc]
        show (bd c.1 (fun v1 => if v1 = mi 4 then _ else _)) = _
        rw [bd_eq, c1, if_pos h5]
        simp only [bd_eq]
      rw [hmv]
      cases hgq : gq with
      | nil =>
        rw [hgq] at m6 b7 b8 b9
        refine ⟨none, [], _, rfl, ⟨⟨hA2, hB2, hC2, ⟨fun _ => ⟨m6, rfl⟩, (fun c w => by cases w), (fun k e w => by simp at w)⟩⟩, by simp, ⟨(fun c w => by cases w), (fun e w => by simp at w)⟩⟩, hWn, ⟨mk, ak⟩, Or.inr ⟨_, rfl⟩⟩
      | cons e t =>
        rw [hgq] at m6 b7 b8 b9 hq
        have he0 : e = (ma 7 1, ma 8 1, ma 9 1) := hL 0 e (by rw [hgq]; rfl)
        have hln : (e :: t).length = t.length + 1 := rfl
        refine ⟨some (mi 4 + ov 0, e), t, _, rfl, ⟨⟨hA2, hB2, hC2, ⟨(fun w => by cases w), fun c2 w => ?_, fun k x w => ?_⟩⟩, by rw [hln] at hq; omega, ⟨fun c2 w => ?_, fun x w => ?_⟩⟩, hWn, ⟨mk, ak⟩, Or.inr ⟨_, rfl⟩⟩
        · have w2 := (Option.some.inj w).symm
          subst w2
          refine ⟨by rw [m6, hln], ?_⟩
          rw [m5, o0, b7, b8, b9]
          unfold shL
          rw [if_pos (show 0 ≤ 0 ∧ 0 < (e :: t).length by rw [hln]; omega), if_pos (show 0 ≤ 0 ∧ 0 < (e :: t).length by rw [hln]; omega), if_pos (show 0 ≤ 0 ∧ 0 < (e :: t).length by rw [hln]; omega), he0]
        · have hk := (List.getElem?_eq_some_iff.mp w).1
          have := hL (k + 1) x (by rw [hgq]; exact w)
          rw [b7, b8, b9]
          unfold shL
          rw [if_pos (show 0 ≤ k + 1 ∧ k + 1 < (e :: t).length by rw [hln]; omega), if_pos (show 0 ≤ k + 1 ∧ k + 1 < (e :: t).length by rw [hln]; omega), if_pos (show 0 ≤ k + 1 ∧ k + 1 < (e :: t).length by rw [hln]; omega)]
          exact this
        · have w2 := (Option.some.inj w).symm
          subst w2
          rw [ak 46 (by decide)]
          exact n2 e (by rw [hgq]; exact List.mem_cons_self ..)
        · rw [ak 46 (by decide)]
          exact n2 x (by rw [hgq]; exact List.mem_cons_of_mem _ w)
    · rw [if_neg h5] at hx
      have hx := Option.some.inj hx
      refine same (congrArg Prod.fst hx) (congrArg (fun x => x.2.1) hx) ?_
      show (bd c.1 (fun v1 => if v1 = mi 4 then _ else _)) = _
      rw [bd_eq, c1, if_neg h5]

def KFR (mi : Nat → Int32) (ma : Nat → Nat → Int32) (m : Nat → Int32) (a : Nat → Nat → Int32) : Prop := (∀ k, k ∉ ([29, 17, 18, 19, 10, 11] : List Nat) → m k = mi k) ∧ ∀ k, (k < 13 ∨ (16 < k ∧ k < 20) ∨ (25 < k ∧ k < 33) ∨ 41 < k) → a k = ma k
theorem KFR_refl {mi : Nat → Int32} {ma : Nat → Nat → Int32} : KFR mi ma mi ma := ⟨fun _ _ => rfl, fun _ _ => rfl⟩
theorem KFR_trans {mi m m2 : Nat → Int32} {ma a a2 : Nat → Nat → Int32} (h : KFR mi ma m a) (h2 : KFR m a m2 a2) : KFR mi ma m2 a2 := ⟨fun k hk => (h2.1 k hk).trans (h.1 k hk), fun k hk => (h2.2 k hk).trans (h.2 k hk)⟩
theorem KFR_c {mi m : Nat → Int32} {ma a : Nat → Nat → Int32} (h : CFR mi ma m a) : KFR mi ma m a := ⟨fun k hk => h.1 k (fun w => hk (by revert w; exact sub_of (by decide) k)), fun k hk => h.2 k (by omega)⟩
/-- the flow of a segment that is brought -/
theorem recv_F {n : Nat} {f g pb : Int32} {mi m : Nat → Int32} {ma a : Nat → Nat → Int32} {r : Int32} (hn : n ≤ 4) (h32 : mi 32 = nI n) (hx : x_receives f g pb mi ma = some (m, a, r)) : ∃ F, F < n ∧ f = nI F := by
  unfold x_receives at hx
  obtain ⟨⟨_, ⟨h0, h1⟩, _⟩, _⟩ := ax_some hx
  rw [h32, nI_toInt (by omega)] at h1
  exact ⟨f.toInt.toNat, by omega, nIof h0⟩
theorem filt_none {t : Int32} {l : List S4} (h : ∀ e, e ∈ l → ¬ e.1 = t) : l.filter (fun e => decide (e.1 = t)) = [] ∧ l.filter (fun e => ! decide (e.1 = t)) = l := by
  refine ⟨List.filter_eq_nil_iff.mpr (fun e he => by simp [h e he]), List.filter_eq_self.mpr (fun e he => by simp [h e he])⟩
theorem comes7 {n : Nat} {FX : Nat → Nat → Int32} {T : Int} {tf : Nat → Int32} {go : Option S4} {gq : List S3} : ∀ (GW : List S4) (fu : Nat) (ov : Nat → Int32) (FV : FVt) (FJ : FJt) (GA : List A6) (mi : Nat → Int32) (ma : Nat → Nat → Int32) (m : Nat → Int32) (a : Nat → Nat → Int32) (r : Int32), BRq n FX T ov tf FV FJ go gq GA mi ma → WQ GW mi ma → GW.Pairwise (fun x y => x.1 ≤ y.1) → (∀ e, e ∈ GW → mi 4 ≤ e.1) → GW.length < fu → x_comes_7 fu mi ma = some (m, a, r) → ∃ ov2 FV2 FJ2 GA2, (∀ R, xc_segs n FX (mi 4) (GW.filter (fun e => decide (e.1 = mi 4)) ++ R) ov tf FV FJ go gq (srtA GA) = xc_segs n FX (mi 4) R ov2 tf FV2 FJ2 go gq (srtA GA2)) ∧ BRq n FX T ov2 tf FV2 FJ2 go gq GA2 m a ∧ WQ (GW.filter (fun e => ! decide (e.1 = mi 4))) m a ∧ KFR mi ma m a
  | GW, 0, ov, FV, FJ, GA, mi, ma, m, a, r, h, hW, hs, ht, hf, hx => by omega
  | [], fu + 1, ov, FV, FJ, GA, mi, ma, m, a, r, h, hW, hs, ht, hf, hx => by
    rw [x_comes_7] at hx
    simp only [bd_eq] at hx
    have w := hW.1
    rw [if_pos (Int32.le_iff_toInt_le.mpr (by have := w.2.1; simp at this; omega))] at hx
    have hx := Option.some.inj hx
    have q1 : mi = m := congrArg Prod.fst hx
    have q2 : ma = a := congrArg (fun x => x.2.1) hx
    subst q1 q2
    exact ⟨ov, FV, FJ, GA, fun R => rfl, h, hW, KFR_refl⟩
  | e :: GW, fu + 1, ov, FV, FJ, GA, mi, ma, m, a, r, h, hW, hs, ht, hf, hx => by
    rw [x_comes_7] at hx
    simp only [bd_eq] at hx
    obtain ⟨⟨w1, w2, w3⟩, w4⟩ := hW
    have hln : (e :: GW).length = GW.length + 1 := rfl
    rw [if_neg (fun w => by have := Int32.le_iff_toInt_le.mp w; rw [hln] at w2; omega)] at hx
    obtain ⟨p1, p2, p3⟩ := w4 0 e rfl
    rw [show (mi 10).toInt.toNat + 0 = (mi 10).toInt.toNat from rfl] at p1
    have h10 : (mi 10).toNatClampNeg = (mi 10).toInt.toNat := by
      conv => lhs; rw [nIof w1]
      exact nI_clamp (by omega)
    rw [h10] at hx
    have e13 : ma 13 (mi 10).toInt.toNat = e.1 := by rw [p1]; rfl
    rw [e13] at hx
    by_cases c : e.1 = mi 4
    · rw [if_pos c] at hx
      have t1 : (mi 10 + 1).toInt = (mi 10).toInt + 1 := ti_add1 (by omega)
      have hb1 : ∀ x : Int32, (upd mi 10 x 10 - 1) = x - 1 := fun x => by rw [upd_a]
      have hsub : (mi 10 + 1 - 1) = mi 10 := Int32.add_sub_cancel _ _
      rw [hb1, hsub, h10] at hx
      obtain ⟨m1, hm1⟩ : ∃ y, y = upd mi 10 (mi 10 + 1) := ⟨_, rfl⟩
      rw [← hm1] at hx
      obtain ⟨m', a', r', y1, y2⟩ := bo_some hx
      have k1 : ∀ k, k ≠ 10 → m1 k = mi k := fun k hk => by rw [hm1]; exact upd_b hk
      have hB1 : BRq n FX T ov tf FV FJ go gq GA m1 ma := BRq_keep h (fun k hk => k1 k (fun e => hk (by rw [e]; decide))) (fun _ _ => rfl)
      obtain ⟨F, hF, ef⟩ := recv_F hB1.1.1 hB1.1.2.1 y1
      have ec : e.2 = (nI F, ma 15 (mi 10).toInt.toNat, ma 16 (mi 10).toInt.toNat) := by
        rw [p1]
        show (ma 14 _, ma 15 _, ma 16 _) = _
        rw [ef]
      rw [ef] at y1
      have e46 : e.2.1.toNatClampNeg = F := by
        rw [ec]
        exact nI_clamp (by have := hB1.1.1; omega)
      obtain ⟨ov2, FV2, FJ2, GA2, z1, z2, z3⟩ := seg_step hB1 hF ec (by rw [c, k1 4 (by decide)]) (by rw [ec] at p2; exact p2) (by rw [e46, ec] at p3; exact p3) y1
      rw [k1 4 (by decide)] at z1
      have hW2 : WQ GW m' a' := by
        have hWm : WQ GW m1 ma := by
          refine ⟨?_, fun k x hk => ?_⟩
          · rw [hm1, upd_a, upd_b (by decide), t1]
            rw [hln] at w2
            omega
          · have := w4 (k + 1) x hk
            rw [hm1, upd_a, t1, show ((mi 10).toInt + 1).toNat + k = (mi 10).toInt.toNat + (k + 1) by omega]
            exact this
        exact WQ_keep hWm (z3.1 10 (by decide)) (z3.1 11 (by decide)) (fun k hk => z3.2 k (by revert hk; simp only [List.mem_cons, List.not_mem_nil, or_false]; omega)) (fun f => by rw [z3.2 46 (by omega)]; exact Int.le_refl _)
      have m4 : m' 4 = mi 4 := (z3.1 4 (by decide)).trans (k1 4 (by decide))
      obtain ⟨ov3, FV3, FJ3, GA3, v1, v2, v3, v4⟩ := comes7 GW fu ov2 FV2 FJ2 GA2 m' a' m a r z2 hW2 (List.Pairwise.of_cons hs) (fun x hx => by rw [m4]; exact ht x (List.mem_cons_of_mem _ hx)) (by rw [hln] at hf; omega) y2
      rw [m4] at v1 v3
      refine ⟨ov3, FV3, FJ3, GA3, fun R => ?_, v2, ?_, KFR_trans ⟨fun k hk => k1 k (fun e => hk (by rw [e]; decide)), fun _ _ => rfl⟩ (KFR_trans (KFR_c z3) v4)⟩
      · rw [List.filter_cons_of_pos (by simp [c]), List.cons_append, z1, v1]
      · rw [List.filter_cons_of_neg (by simp [c])]
        exact v3
    · rw [if_neg c] at hx
      have hx := Option.some.inj hx
      have q1 : mi = m := congrArg Prod.fst hx
      have q2 : ma = a := congrArg (fun x => x.2.1) hx
      subst q1 q2
      have hno : ∀ x, x ∈ e :: GW → ¬ x.1 = mi 4 := by
        intro x hx2 w
        have he := ht e (List.mem_cons_self ..)
        rcases List.mem_cons.mp hx2 with z | z
        · rw [z] at w
          exact c w
        · have := (List.pairwise_cons.mp hs).1 x z
          rw [w] at this
          exact c (Int32.le_antisymm this he)
      obtain ⟨f1, f2⟩ := filt_none hno
      rw [f1, f2]
      exact ⟨ov, FV, FJ, GA, fun R => rfl, h, ⟨⟨w1, w2, w3⟩, w4⟩, KFR_refl⟩
theorem comes95 {n : Nat} {FX : Nat → Nat → Int32} {T : Int} {tf : Nat → Int32} {go : Option S4} {gq : List S3} {f0 E : Nat} (hE : E ≤ 4096) : ∀ (GW KP : List S4) (fu i2 : Nat) (ov : Nat → Int32) (FV : FVt) (FJ : FJt) (GA : List A6) (mi : Nat → Int32) (ma : Nat → Nat → Int32) (m : Nat → Int32) (a : Nat → Nat → Int32) (r : Int32), BRq n FX T ov tf FV FJ go gq GA mi ma → mi 10 = nI f0 → mi 11 = nI E → i2 + GW.length = E → f0 + KP.length ≤ i2 → (∀ k e, KP[k]? = some e → e = wE ma (f0 + k) ∧ (e.2.2.2 = 0 ∨ e.2.2.2 = 1) ∧ (e.2.2.1).toInt < (ma 46 e.2.1.toNatClampNeg).toInt) → (∀ k e, GW[k]? = some e → e = wE ma (i2 + k) ∧ (e.2.2.2 = 0 ∨ e.2.2.2 = 1) ∧ (e.2.2.1).toInt < (ma 46 e.2.1.toNatClampNeg).toInt) → GW.length < fu → x_comes_95 fu mi ma (nI (f0 + KP.length)) (nI i2) = some (m, a, r) → ∃ ov2 FV2 FJ2 GA2, (∀ R, xc_segs n FX (mi 4) (GW.filter (fun e => decide (e.1 = mi 4)) ++ R) ov tf FV FJ go gq (srtA GA) = xc_segs n FX (mi 4) R ov2 tf FV2 FJ2 go gq (srtA GA2)) ∧ BRq n FX T ov2 tf FV2 FJ2 go gq GA2 m a ∧ WQ (KP ++ GW.filter (fun e => ! decide (e.1 = mi 4))) m a ∧ KFR mi ma m a
  | GW, KP, 0, i2, ov, FV, FJ, GA, mi, ma, m, a, r, h, h10, h11, hl, hi, hK, hG, hf, hx => by omega
  | [], KP, fu + 1, i2, ov, FV, FJ, GA, mi, ma, m, a, r, h, h10, h11, hl, hi, hK, hG, hf, hx => by
    rw [x_comes_95] at hx
    simp only [bd_eq] at hx
    have hl2 : i2 = E := by simpa using hl
    rw [h11, hl2, if_pos (Int32.le_refl _)] at hx
    have hx := Option.some.inj hx
    have q1 : upd mi 11 (nI (f0 + KP.length)) = m := congrArg Prod.fst hx
    have q2 : ma = a := congrArg (fun x => x.2.1) hx
    subst q1 q2
    refine ⟨ov, FV, FJ, GA, fun R => rfl, BRq_keep h (fun k hk => upd_b (fun e => hk (by rw [e]; decide))) (fun _ _ => rfl), ⟨?_, fun k e he => ?_⟩, ⟨fun k hk => upd_b (fun e => hk (by rw [e]; decide)), fun _ _ => rfl⟩⟩
    · rw [List.filter_nil, List.append_nil, upd_b (by decide), upd_a, h10, nI_toInt (by omega), nI_toInt (by omega)]
      omega
    · rw [List.filter_nil, List.append_nil] at he
      rw [upd_b (by decide), h10, nI_toInt (by omega)]
      exact hK k e he
  | e :: GW, KP, fu + 1, i2, ov, FV, FJ, GA, mi, ma, m, a, r, h, h10, h11, hl, hi, hK, hG, hf, hx => by
    have hln : (e :: GW).length = GW.length + 1 := rfl
    rw [hln] at hl hf
    rw [x_comes_95] at hx
    simp only [bd_eq] at hx
    rw [h11, if_neg (fun w => by have := (nIle (by omega) (by omega)).mp w; omega), nI_clamp (show i2 < 2 ^ 31 by omega), nI_1] at hx
    obtain ⟨p1, p2, p3⟩ := hG 0 e rfl
    rw [show i2 + 0 = i2 from rfl] at p1
    have e13 : ma 13 i2 = e.1 := by rw [p1]; rfl
    rw [e13] at hx
    by_cases c : e.1 = mi 4
    · rw [if_pos c] at hx
      obtain ⟨m', a', r', y1, y2⟩ := bo_some hx
      obtain ⟨F, hF, ef⟩ := recv_F h.1.1 h.1.2.1 y1
      have ec : e.2 = (nI F, ma 15 i2, ma 16 i2) := by
        rw [p1]
        show (ma 14 _, ma 15 _, ma 16 _) = _
        rw [ef]
      rw [ef] at y1
      have e46 : e.2.1.toNatClampNeg = F := by
        rw [ec]
        exact nI_clamp (by have := h.1.1; omega)
      obtain ⟨ov2, FV2, FJ2, GA2, z1, z2, z3⟩ := seg_step h hF ec c (by rw [ec] at p2; exact p2) (by rw [e46, ec] at p3; exact p3) y1
      have m4 : m' 4 = mi 4 := z3.1 4 (by decide)
      have hwE : ∀ K, wE a' K = wE ma K := fun K => wE_congr (fun k hk => z3.2 k (by revert hk; simp only [List.mem_cons, List.not_mem_nil, or_false]; omega))
      have h46 : a' 46 = ma 46 := z3.2 46 (by omega)
      obtain ⟨ov3, FV3, FJ3, GA3, v1, v2, v3, v4⟩ := comes95 hE GW KP fu (i2 + 1) ov2 FV2 FJ2 GA2 m' a' m a r z2 (by rw [z3.1 10 (by decide)]; exact h10) (by rw [z3.1 11 (by decide)]; exact h11) (by omega) (by omega) (fun k x hx => by rw [hwE, h46]; exact hK k x hx) (fun k x hx => by rw [hwE, h46, show i2 + 1 + k = i2 + (k + 1) by omega]; exact hG (k + 1) x hx) (by omega) y2
      rw [m4] at v1 v3
      refine ⟨ov3, FV3, FJ3, GA3, fun R => ?_, v2, ?_, KFR_trans (KFR_c z3) v4⟩
      · rw [List.filter_cons_of_pos (by simp [c]), List.cons_append, z1, v1]
      · rw [List.filter_cons_of_neg (by simp [c])]
        exact v3
    · rw [if_neg c] at hx
      have h16 : ma 16 i2 = 0 ∨ ma 16 i2 = 1 := by
        rw [p1] at p2
        exact p2
      rw [x_way_eq (by omega) (by omega) h16, bc_eq, nI_1] at hx
      obtain ⟨b, hb⟩ : ∃ b, b = mvW ma (f0 + KP.length) i2 := ⟨_, rfl⟩
      rw [← hb] at hx
      have bk : ∀ k, k ∉ ([13, 14, 15, 16] : List Nat) → b k = ma k := fun k hk => by rw [hb]; exact mvW_k hk
      have hB : BRq n FX T ov tf FV FJ go gq GA mi b := BRq_keep h (fun _ _ => rfl) bk
      have h46 : b 46 = ma 46 := bk 46 (by decide)
      obtain ⟨ov3, FV3, FJ3, GA3, v1, v2, v3, v4⟩ := comes95 hE GW (KP ++ [e]) fu (i2 + 1) ov FV FJ GA mi b m a r hB h10 h11 (by omega) (by rw [List.length_append]; show f0 + (KP.length + 1) ≤ i2 + 1; omega) (fun k x hx => by
        rw [h46]
        rcases Nat.lt_or_ge k KP.length with w | w
        · rw [List.getElem?_append_left w] at hx
          have := hK k x hx
          rw [hb, mvW_j (by omega)]
          exact this
        · rw [List.getElem?_append_right w] at hx
          have hk : k = KP.length := by
            have := (List.getElem?_eq_some_iff.mp hx).1
            simp at this
            omega
          subst hk
          rw [show KP.length - KP.length = 0 by omega] at hx
          have hx2 := (Option.some.inj hx).symm
          subst hx2
          rw [hb, mvW_p]
          exact ⟨p1, p2, p3⟩) (fun k x hx => by
        rw [h46, hb, mvW_j (by omega), show i2 + 1 + k = i2 + (k + 1) by omega]
        exact hG (k + 1) x hx) (by omega) (by rw [List.length_append]; exact hx)
      refine ⟨ov3, FV3, FJ3, GA3, fun R => ?_, v2, ?_, KFR_trans ⟨fun _ _ => rfl, fun k hk => bk k (by simp only [List.mem_cons, List.not_mem_nil, or_false]; omega)⟩ v4⟩
      · rw [List.filter_cons_of_neg (by simp [c])]
        exact v1 R
      · rw [List.filter_cons_of_pos (by simp [c])]
        rw [List.append_assoc] at v3
        exact v3
/-- all that is due comes -/
theorem comes_pair {n : Nat} {FX : Nat → Nat → Int32} {T : Int} {ov tf : Nat → Int32} {FV : FVt} {FJ : FJt} {go : Option S4} {gq : List S3} {GA : List A6} {GW : List S4} {mi m : Nat → Int32} {ma a : Nat → Nat → Int32} {r : Int32} (h : BRq n FX T ov tf FV FJ go gq GA mi ma) (hW : WQ GW mi ma) (hx : x_comes mi ma = some (m, a, r)) : ∃ ov2 FV2 FJ2 GA2, xc_bringSegments n FX (mi 4) ov tf FV FJ go gq (srtS GW) (srtA GA) = (ov2, tf, FV2, FJ2, go, gq, srtS (GW.filter (fun e => ! decide (e.1 = mi 4))), srtA GA2) ∧ BRq n FX T ov2 tf FV2 FJ2 go gq GA2 m a ∧ WQ (GW.filter (fun e => ! decide (e.1 = mi 4))) m a ∧ KFR mi ma m a ∧ (∀ e, e ∈ GW → mi 4 ≤ e.1) := by
  unfold x_comes at hx
  obtain ⟨⟨hMB, ph, cl, hDW, _⟩, hx⟩ := ax_some hx
  simp only [bd_eq] at hx
  have hw := hW
  obtain ⟨⟨w1, w2, w3⟩, w4⟩ := hw
  have hdue : ∀ (k : Nat) (e : S4), GW[k]? = some e → ma 13 ((mi 10).toInt.toNat + k) = e.1 := fun k e he => by
    rw [(w4 k e he).1]
    rfl
  have hge : ∀ e, e ∈ GW → mi 4 ≤ e.1 := by
    intro e he
    obtain ⟨k, hk, hke⟩ := List.getElem_of_mem he
    have hq := hdue k e (by rw [List.getElem?_eq_getElem hk, hke])
    have := (hDW.2.1 ((mi 10).toInt.toNat + k) (by omega) (by omega)).1
    rw [hq] at this
    exact Int32.le_iff_toInt_le.mpr this
  have key : ∃ ov2 FV2 FJ2 GA2, (∀ R, xc_segs n FX (mi 4) (GW.filter (fun e => decide (e.1 = mi 4)) ++ R) ov tf FV FJ go gq (srtA GA) = xc_segs n FX (mi 4) R ov2 tf FV2 FJ2 go gq (srtA GA2)) ∧ BRq n FX T ov2 tf FV2 FJ2 go gq GA2 m a ∧ WQ (GW.filter (fun e => ! decide (e.1 = mi 4))) m a ∧ KFR mi ma m a := by
    by_cases c : mi 12 = 0
    · rw [if_pos c] at hx
      refine comes7 GW 5000 ov FV FJ GA mi ma m a r h hW ?_ hge (by omega) hx
      rw [List.pairwise_iff_getElem]
      intro i j hi hj hij
      have q1 := hdue i GW[i] (List.getElem?_eq_getElem hi)
      have q2 := hdue j GW[j] (List.getElem?_eq_getElem hj)
      have := hDW.2.2 c ((mi 10).toInt.toNat + i) ((mi 10).toInt.toNat + j) (by omega) (by omega) (by omega)
      rw [q1, q2] at this
      exact Int32.le_iff_toInt_le.mpr this
    · rw [if_neg c] at hx
      obtain ⟨f0, hf0⟩ : ∃ f0, f0 = (mi 10).toInt.toNat := ⟨_, rfl⟩
      have h10 : mi 10 = nI f0 := by rw [hf0]; exact nIof w1
      have h11 : mi 11 = nI (f0 + GW.length) := by
        apply Int32.toInt_inj.mp
        rw [nI_toInt (by omega)]
        omega
      have := comes95 (f0 := f0) (E := f0 + GW.length) (by omega) GW [] 5000 f0 ov FV FJ GA mi ma m a r h h10 h11 rfl (by simp) (fun k e he => by simp at he) (fun k e he => by rw [hf0]; exact w4 k e he) (by omega) (by rw [h10] at hx; exact hx)
      simpa using this
  obtain ⟨ov2, FV2, FJ2, GA2, v1, v2, v3, v4⟩ := key
  refine ⟨ov2, FV2, FJ2, GA2, ?_, v2, v3, v4, hge⟩
  unfold xc_bringSegments
  rw [srtS_split GW hge, v1]
  have hR : ∀ x, x ∈ srtS (GW.filter (fun e => ! decide (e.1 = mi 4))) → ¬ x.1 ≤ mi 4 := fun x hx2 w => by
    have h1 := List.mem_filter.mp ((srtS_mem _).mp hx2)
    have h2 : x.1 ≠ mi 4 := by simpa using h1.2
    exact h2 (Int32.le_antisymm w (hge x h1.1))
  cases hz : srtS (GW.filter (fun e => ! decide (e.1 = mi 4))) with
  | nil => rw [xc_segs]
  | cons d q => rw [xc_segs, if_neg (hR d (by rw [hz]; exact List.mem_cons_self ..))]

theorem dT130 {p q : Nat} (hp : p < 6000) (hq : q < 6000) (hpq : p ≠ q) {f : Int32} {mi : Nat → Int32} {x : XT} : ∀ (d i fu : Nat) (ma : Nat → Nat → Int32), i + d = 200 → (∀ i, i < 200 → ma 25 (200 * q + i) = 0 ∨ ma 25 (200 * q + i) = 1) → x_acksDownT_a f fu 130 mi ma (nI p) (nI q) (nI i) = some x → ∃ fu2, x_acksDownT_a f fu2 171 mi (va_up ma 25 (cpy (ma 25) (ma 25) (200 * p) (200 * q) i 200)) (nI p) (nI q) 0 = some x
  | d, i, 0, ma, h, h1, hx => by
    rw [x_acksDownT_a] at hx
    cases hx
  | 0, i, fu + 1, ma, h, h1, hx => by
    rw [x_acksDownT_a, if_neg (by decide), if_pos rfl, show i = 200 by omega, if_pos (show (200 : Int32) ≤ nI 200 by decide)] at hx
    rw [show i = 200 by omega, cpy_end, va_id]
    exact ⟨fu, hx⟩
  | d + 1, i, fu + 1, ma, h, h1, hx => by
    rw [x_acksDownT_a, if_neg (by decide), if_pos rfl, if_neg (fun w => by
      have := Int32.le_iff_toInt_le.mp w
      rw [nI_toInt (by omega), show (200 : Int32).toInt = 200 by decide] at this
      omega)] at hx
    simp only [bd_eq] at hx
    rw [mul200b hp, mul200b hq, nI_add, nI_add, nI_clamp (show 200 * p + i < 2 ^ 31 by omega), nI_clamp (show 200 * q + i < 2 ^ 31 by omega), nI_1, nar01 (h1 i (by omega))] at hx
    obtain ⟨fu2, h2⟩ := dT130 hp hq hpq d (i + 1) fu _ (by omega) (by
      intro j hj
      rw [va_up_self, upd_b (by omega)]
      exact h1 j hj) hx
    rw [va_up_self, va_va, cpy_step2 (by omega) hpq] at h2
    exact ⟨fu2, h2⟩
theorem hearsT {n : Nat} {FX : Nat → Nat → Int32} {T : Int} {gw : List S4} {f : Int32} {f0 E : Nat} (hE : E ≤ 6000) : ∀ (GA KP : List A6) (fu i4 : Nat) (ov tf : Nat → Int32) (FV : FVt) (FJ : FJt) (go : Option S4) (gq : List S3) (GG : List A6) (mi : Nat → Int32) (ma : Nat → Nat → Int32) (m : Nat → Int32) (a : Nat → Nat → Int32) (r : Int32), (∀ GZ mz az, (∀ k, k ≠ 17 → k ≠ 18 → mz k = mi k) → (∀ k, k ∉ ([20, 21, 22, 23, 24, 25] : List Nat) → az k = ma k) → AQ GZ mz az → BRq n FX T ov tf FV FJ go gq GZ mz az) → T = (mi 4).toInt → mi 17 = nI f0 → mi 18 = nI E → i4 + GA.length = E → f0 + KP.length ≤ i4 → (∀ k e, KP[k]? = some e → AE e (f0 + k) ma) → (∀ k e, GA[k]? = some e → AE e (i4 + k) ma) → x_acksDownT_a f fu 13 mi ma (nI (f0 + KP.length)) (nI i4) 0 = some (m, a, r) → ∃ ov2 tf2 FV2 FJ2 go2 gq2, (∀ R, xc_acks n FX (mi 4) (GA.filter (fun e => decide (e.1 = mi 4)) ++ R) ov tf FV FJ go gq gw = xc_acks n FX (mi 4) R ov2 tf2 FV2 FJ2 go2 gq2 gw) ∧ BRq n FX T ov2 tf2 FV2 FJ2 go2 gq2 (KP ++ GA.filter (fun e => ! decide (e.1 = mi 4))) m a ∧ HFR mi ma m a
  | GA, KP, 0, i4, ov, tf, FV, FJ, go, gq, GG, mi, ma, m, a, r, hB, hT, h17, h18, hl, hi, hK, hG, hx => by
    rw [x_acksDownT_a] at hx
    cases hx
  | [], KP, fu + 1, i4, ov, tf, FV, FJ, go, gq, GG, mi, ma, m, a, r, hB, hT, h17, h18, hl, hi, hK, hG, hx => by
    have hl2 : i4 = E := by simpa using hl
    rw [x_acksDownT_a, if_pos rfl] at hx
    simp only [bd_eq] at hx
    rw [h18, hl2, if_pos (Int32.le_refl _)] at hx
    have hx := Option.some.inj hx
    have q1 : upd mi 18 (nI (f0 + KP.length)) = m := congrArg Prod.fst hx
    have q2 : ma = a := congrArg (fun x => x.2.1) hx
    subst q1 q2
    refine ⟨ov, tf, FV, FJ, go, gq, fun R => rfl, hB _ _ _ (fun k _ h2 => upd_b h2) (fun _ _ => rfl) ⟨?_, fun k e he => ?_⟩, ⟨fun k hk => upd_b (fun e => hk (by rw [e]; decide)), fun _ _ _ => rfl, fun _ => Int.le_refl _⟩⟩
    · rw [List.filter_nil, List.append_nil, upd_b (by decide), upd_a, h17, nI_toInt (by omega), nI_toInt (by omega)]
      omega
    · rw [List.filter_nil, List.append_nil] at he
      rw [upd_b (by decide), h17, nI_toInt (by omega)]
      exact hK k e he
  | e :: GA, KP, fu + 1, i4, ov, tf, FV, FJ, go, gq, GG, mi, ma, m, a, r, hB, hT, h17, h18, hl, hi, hK, hG, hx => by
    have hln : (e :: GA).length = GA.length + 1 := rfl
    rw [hln] at hl
    rw [x_acksDownT_a, if_pos rfl] at hx
    simp only [bd_eq] at hx
    rw [h18, if_neg (fun w => by have := (nIle (by omega) (by omega)).mp w; omega), nI_clamp (show i4 < 2 ^ 31 by omega), nI_1] at hx
    have p := hG 0 e rfl
    rw [show i4 + 0 = i4 from rfl] at p
    rw [← p.1] at hx
    by_cases c : e.1 = mi 4
    · rw [if_pos c] at hx
      obtain ⟨m', a', r', y1, y2⟩ := bo_some hx
      -- the rows as they stand, for the step: what is kept and what is left
      have hBz : BRq n FX T ov tf FV FJ go gq KP (upd (upd mi 17 (nI f0)) 18 (nI (f0 + KP.length))) ma := hB _ _ _ (fun k h1 h2 => by rw [upd_b h2, upd_b h1]) (fun _ _ => rfl) ⟨by rw [upd_b (by decide), upd_a, upd_a, nI_toInt (by omega), nI_toInt (by omega)]; omega, fun k x hk => by rw [upd_b (by decide), upd_a, nI_toInt (by omega)]; exact hK k x hk⟩
      obtain ⟨F, hF, ef⟩ := heard_F hBz.1.1 (by have := hBz.1.2.1; simp (decide := true) only [upd_b, ne_eq, not_false_eq_true] at this; exact this) y1
      have hn := hBz.1.1
      have hF2 : (nI F).toNatClampNeg = F := nI_clamp (by omega)
      obtain ⟨q1, q2, q3⟩ := hBz.2.1 F hF
      have hq2 : FQ F T (FX F 1) (FX F 2) (FV F 0) (FV F 1) (FV F 2) (FV F 3) (FJ F 0) (FJ F 1) mi ma := FQ_mi q2 (by simp (decide := true) only [upd_b, ne_eq, not_false_eq_true])
      have hRR : RR ov tf go gq mi ma := RR_keep hBz.2.2.1 (fun k hk => by rw [upd_b (fun e => by rw [e] at hk; revert hk; decide), upd_b (fun e => by rw [e] at hk; revert hk; decide)]) (fun _ _ => rfl) (fun _ => Int.le_refl _)
      rw [ef] at y1
      have hak : AKq F i4 e ma := by
        have := p.2.2.2
        rw [ef, hF2] at this
        exact this
      obtain ⟨sv2, tv2, bv2, cv2, f2, g2, ov2, tf2, go2, gq2, z1, z2, z3, z4⟩ := heard_pair (show F < 4 by omega) (show i4 < 6000 by omega) hq2 hRR hT hak y1
      have m4 : m' 4 = mi 4 := z4.1 4 (by decide)
      have hlo : ∀ k, k ∈ ([20, 21, 22, 23, 24, 25] : List Nat) → a' k = ma k := fun k hk => SFR_lo z4 (by revert hk; simp only [List.mem_cons, List.not_mem_nil, or_false]; omega) (fun w => by revert hk w; simp only [List.mem_cons, List.not_mem_nil, or_false]; omega)
      have hAE : ∀ x K, AE x K ma → AE x K a' := fun x K hxK => AE_move hxK ⟨fun k hk => by rw [hlo k (by revert hk; exact sub_of (by decide) k)], fun i _ => by rw [hlo 25 (by decide)]⟩ (SFR_46 z4)
      have hB2 : ∀ GZ mz az, (∀ k, k ≠ 17 → k ≠ 18 → mz k = m' k) → (∀ k, k ∉ ([20, 21, 22, 23, 24, 25] : List Nat) → az k = a' k) → AQ GZ mz az → BRq n FX T ov2 tf2 (va_up FV F (fpk sv2 tv2 bv2 cv2 (FV F 4))) (va_up FJ F (fpj f2 g2 (FJ F 2))) go2 gq2 GZ mz az := by
        intro GZ mz az hmz haz hAQ
        have hBq : BRq n FX T ov tf FV FJ go gq KP (upd (upd mi 17 (nI f0)) 18 (nI (f0 + KP.length))) ma := hBz
        have hs : SFR F (upd (upd mi 17 (nI f0)) 18 (nI (f0 + KP.length))) ma (upd (upd m' 17 (nI f0)) 18 (nI (f0 + KP.length))) a' := by
          refine ⟨fun k hk => ?_, z4.2.1, z4.2.2⟩
          by_cases e18 : k = 18
          · rw [e18, upd_a, upd_a]
          · rw [upd_b e18, upd_b e18]
            by_cases e17 : k = 17
            · rw [e17, upd_a, upd_a]
            · rw [upd_b e17, upd_b e17]
              exact z4.1 k hk
        have hsb := send_bench hBq hF (FQ_mi z2 (by simp (decide := true) only [upd_b, ne_eq, not_false_eq_true])) hs (RR_keep z3 (fun k hk => by rw [upd_b (fun e => by rw [e] at hk; revert hk; decide), upd_b (fun e => by rw [e] at hk; revert hk; decide)]) (fun _ _ => rfl) (fun _ => Int.le_refl _))
        exact BRq_GA hsb (fun k h1 h2 => by rw [upd_b h2, upd_b h1]; exact hmz k h1 h2) haz hAQ
      obtain ⟨ov3, tf3, FV3, FJ3, go3, gq3, v1, v2, v3⟩ := hearsT (gw := gw) (f := f) (f0 := f0) hE GA KP fu (i4 + 1) ov2 tf2 _ _ go2 gq2 GG m' a' m a r hB2 (by rw [m4]; exact hT) (by rw [z4.1 17 (by decide)]; exact h17) (by rw [z4.1 18 (by decide)]; exact h18) (by omega) (by omega) (fun k x hk => hAE x _ (hK k x hk)) (fun k x hk => by
        rw [show i4 + 1 + k = i4 + (k + 1) by omega]
        exact hAE x _ (hG (k + 1) x hk)) y2
      rw [m4] at v1 v2
      refine ⟨ov3, tf3, FV3, FJ3, go3, gq3, fun R => ?_, ?_, HFR_trans (HFR_s z4) v3⟩
      · rw [List.filter_cons_of_pos (by simp [c]), List.cons_append, ← v1]
        rw [xc_acks, if_pos (show e.1 ≤ mi 4 by rw [c]; exact Int32.le_refl _)]
        have e1 : e.2.1 = nI F := p.2.1.trans ef
        simp only [bd_eq]
        rw [e1, isf_1 hF hn, hF2, if_neg (show ¬ (1 : Int32) = 0 by decide), q1, z1]
      · rw [List.filter_cons_of_neg (by simp [c])]
        exact v2
    · rw [if_neg c] at hx
      have hstep : ∃ fu2 b, x_acksDownT_a f fu2 13 mi b (nI (f0 + KP.length + 1)) (nI (i4 + 1)) 0 = some (m, a, r) ∧ ENT b (f0 + KP.length) ma i4 ∧ (∀ j, j ≠ f0 + KP.length → ENT b j ma j) ∧ (∀ k, k ∉ ([20, 21, 22, 23, 24, 25] : List Nat) → b k = ma k) := by
        have h171 : ∀ (fu3 : Nat) (b : Nat → Nat → Int32), x_acksDownT_a f fu3 171 mi b (nI (f0 + KP.length)) (nI i4) 0 = some (m, a, r) → ∃ fu2, x_acksDownT_a f fu2 13 mi b (nI (f0 + KP.length + 1)) (nI (i4 + 1)) 0 = some (m, a, r) := by
          intro fu3 b hy
          cases fu3 with
          | zero =>
            rw [x_acksDownT_a] at hy
            cases hy
          | succ k =>
            rw [x_acksDownT_a, if_neg (by decide), if_neg (by decide)] at hy
            simp only [bd_eq] at hy
            rw [nI_1, nI_1] at hy
            exact ⟨k, hy⟩
        by_cases c2 : i4 ≤ f0 + KP.length
        · have e4 : i4 = f0 + KP.length := by omega
          rw [if_pos ((nIle (by omega) (by omega)).mpr c2)] at hx
          obtain ⟨fu2, h2⟩ := h171 fu ma hx
          exact ⟨fu2, ma, h2, by rw [e4]; exact ENT_refl, fun j _ => ENT_refl, fun _ _ => rfl⟩
        · rw [if_neg (fun w => c2 ((nIle (by omega) (by omega)).mp w)), nI_clamp (show f0 + KP.length < 2 ^ 31 by omega)] at hx
          simp (decide := true) only [va_up_ne, ne_eq, not_false_eq_true] at hx
          have h01 := AE_01 p
          rw [nar01 h01.1] at hx
          have e5 : va_up (va_up (va_up (va_up (va_up ma 20 (upd (ma 20) (f0 + KP.length) e.1)) 21 (upd (ma 21) (f0 + KP.length) (ma 21 i4))) 22 (upd (ma 22) (f0 + KP.length) (ma 22 i4))) 23 (upd (ma 23) (f0 + KP.length) (ma 23 i4))) 24 (upd (ma 24) (f0 + KP.length) (ma 24 i4)) = mv5 ma (f0 + KP.length) i4 := by
            unfold mv5
            rw [p.1]
          rw [e5] at hx
          have k25 : mv5 ma (f0 + KP.length) i4 25 = ma 25 := mv5_k (by decide)
          obtain ⟨fu3, h3⟩ := dT130 (p := f0 + KP.length) (q := i4) (by omega) (by omega) (by omega) 200 0 fu (mv5 ma (f0 + KP.length) i4) (by omega) (by rw [k25]; exact h01.2) (by rw [show nI 0 = (0 : Int32) by decide]; exact hx)
          rw [k25] at h3
          obtain ⟨fu2, h2⟩ := h171 fu3 _ h3
          exact ⟨fu2, mvA ma (f0 + KP.length) i4, h2, mvA_p, fun j hj => mvA_j hj, fun k hk => mvA_k hk⟩
      obtain ⟨fu2, b, y1, y2, y3, y4⟩ := hstep
      have h46 : ∀ f, (ma 46 f).toInt ≤ (b 46 f).toInt := fun f => by rw [y4 46 (by decide)]; exact Int.le_refl _
      obtain ⟨ov3, tf3, FV3, FJ3, go3, gq3, v1, v2, v3⟩ := hearsT (gw := gw) (f := f) (f0 := f0) hE GA (KP ++ [e]) fu2 (i4 + 1) ov tf FV FJ go gq GG mi b m a r (fun GZ mz az h1 h2 h3 => hB GZ mz az h1 (fun k hk => (h2 k hk).trans (y4 k hk)) h3) hT h17 h18 (by omega) (by rw [List.length_append]; show f0 + (KP.length + 1) ≤ i4 + 1; omega) (fun k x hk => by
        rcases Nat.lt_or_ge k KP.length with w | w
        · rw [List.getElem?_append_left w] at hk
          exact AE_move (hK k x hk) (y3 _ (by omega)) h46
        · rw [List.getElem?_append_right w] at hk
          have hkk : k = KP.length := by
            have := (List.getElem?_eq_some_iff.mp hk).1
            simp at this
            omega
          subst hkk
          rw [show KP.length - KP.length = 0 by omega] at hk
          have hx2 := (Option.some.inj hk).symm
          subst hx2
          exact AE_move p y2 h46) (fun k x hk => by
        rw [show i4 + 1 + k = i4 + (k + 1) by omega]
        exact AE_move (hG (k + 1) x hk) (y3 _ (by omega)) h46) (by rw [List.length_append]; exact y1)
      refine ⟨ov3, tf3, FV3, FJ3, go3, gq3, fun R => ?_, ?_, HFR_trans ⟨fun _ _ => rfl, fun k _ hk => y4 k (fun w => hk (by revert w; exact sub_of (by decide) k)), h46⟩ v3⟩
      · rw [List.filter_cons_of_neg (by simp [c])]
        exact v1 R
      · rw [List.filter_cons_of_pos (by simp [c])]
        rw [List.append_assoc] at v2
        exact v2
/-- all acks that are due are heard -/
theorem hears_pair {n : Nat} {FX : Nat → Nat → Int32} {T : Int} {ov tf : Nat → Int32} {FV : FVt} {FJ : FJt} {go : Option S4} {gq : List S3} {gw : List S4} {GA : List A6} {mi m : Nat → Int32} {ma a : Nat → Nat → Int32} {r : Int32} (h : BRq n FX T ov tf FV FJ go gq GA mi ma) (hT : T = (mi 4).toInt) (hx : x_hears mi ma = some (m, a, r)) : ∃ ov2 tf2 FV2 FJ2 go2 gq2, xc_bringAcks n FX (mi 4) ov tf FV FJ go gq gw (srtA GA) = (ov2, tf2, FV2, FJ2, go2, gq2, gw, srtA (GA.filter (fun e => ! decide (e.1 = mi 4)))) ∧ BRq n FX T ov2 tf2 FV2 FJ2 go2 gq2 (GA.filter (fun e => ! decide (e.1 = mi 4))) m a ∧ HFR mi ma m a ∧ (∀ e, e ∈ GA → mi 4 ≤ e.1) := by
  unfold x_hears at hx
  obtain ⟨⟨hMB, ph, cl, hDA⟩, hx⟩ := ax_some hx
  simp only [bd_eq] at hx
  obtain ⟨⟨w1, w2, w3⟩, w4⟩ := h.2.2.2
  have hdue : ∀ (k : Nat) (e : A6), GA[k]? = some e → ma 20 ((mi 17).toInt.toNat + k) = e.1 := fun k e he => (w4 k e he).1.symm
  have hge : ∀ e, e ∈ GA → mi 4 ≤ e.1 := by
    intro e he
    obtain ⟨k, hk, hke⟩ := List.getElem_of_mem he
    have hq := hdue k e (by rw [List.getElem?_eq_getElem hk, hke])
    have := (hDA.2.1 ((mi 17).toInt.toNat + k) (by omega) (by omega)).1
    rw [hq] at this
    exact Int32.le_iff_toInt_le.mpr this
  have key : ∃ ov2 tf2 FV2 FJ2 go2 gq2, (∀ R, xc_acks n FX (mi 4) (GA.filter (fun e => decide (e.1 = mi 4)) ++ R) ov tf FV FJ go gq gw = xc_acks n FX (mi 4) R ov2 tf2 FV2 FJ2 go2 gq2 gw) ∧ BRq n FX T ov2 tf2 FV2 FJ2 go2 gq2 (GA.filter (fun e => ! decide (e.1 = mi 4))) m a ∧ HFR mi ma m a := by
    by_cases c : mi 19 = 0
    · rw [if_pos c] at hx
      refine hears17 GA 7000 ov tf FV FJ go gq mi ma m a r h hT ?_ hge (by omega) hx
      rw [List.pairwise_iff_getElem]
      intro i j hi hj hij
      have q1 := hdue i GA[i] (List.getElem?_eq_getElem hi)
      have q2 := hdue j GA[j] (List.getElem?_eq_getElem hj)
      have := hDA.2.2 c ((mi 17).toInt.toNat + i) ((mi 17).toInt.toNat + j) (by omega) (by omega) (by omega)
      rw [q1, q2] at this
      exact Int32.le_iff_toInt_le.mpr this
    · rw [if_neg c] at hx
      obtain ⟨m', a', r', y1, y2⟩ := bo_some hx
      have y2 := Option.some.inj y2
      have q1 : m' = m := congrArg Prod.fst y2
      have q2 : a' = a := congrArg (fun x => x.2.1) y2
      subst q1 q2
      unfold x_acksDownT at y1
      have y1 := (ax_some y1).2
      obtain ⟨f0, hf0⟩ : ∃ f0, f0 = (mi 17).toInt.toNat := ⟨_, rfl⟩
      have h17 : mi 17 = nI f0 := by rw [hf0]; exact nIof w1
      have h18 : mi 18 = nI (f0 + GA.length) := by
        apply Int32.toInt_inj.mp
        rw [nI_toInt (by omega)]
        omega
      have := hearsT (n := n) (FX := FX) (T := T) (gw := gw) (f := mi 17) (f0 := f0) (E := f0 + GA.length) (by omega) GA [] _ f0 ov tf FV FJ go gq GA mi ma m' a' r' (fun GZ mz az h1 h2 h3 => BRq_GA h h1 h2 h3) hT h17 h18 rfl (by simp) (fun k e he => by simp at he) (fun k e he => by rw [hf0]; exact w4 k e he) (by rw [h17] at y1; rw [h17]; exact y1)
      simpa using this
  obtain ⟨ov2, tf2, FV2, FJ2, go2, gq2, v1, v2, v3⟩ := key
  refine ⟨ov2, tf2, FV2, FJ2, go2, gq2, ?_, v2, v3, hge⟩
  unfold xc_bringAcks
  rw [srtA_split GA hge, v1]
  have hR : ∀ x, x ∈ srtA (GA.filter (fun e => ! decide (e.1 = mi 4))) → ¬ x.1 ≤ mi 4 := fun x hx2 w => by
    have h1 := List.mem_filter.mp ((srtA_mem _).mp hx2)
    have h2 : x.1 ≠ mi 4 := by simpa using h1.2
    exact h2 (Int32.le_antisymm w (hge x h1.1))
  cases hz : srtA (GA.filter (fun e => ! decide (e.1 = mi 4))) with
  | nil => rw [xc_acks]
  | cons d q => rw [xc_acks, if_neg (hR d (by rw [hz]; exact List.mem_cons_self ..))]

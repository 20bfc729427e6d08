/-- the rows of flows that are not there yet are as they were made -/
def ZR (n : Nat) (ma : Nat → Nat → Int32) : Prop := (∀ k j, n ≤ j → j < 4 → 33 ≤ k → k ≤ 70 → k ≠ 36 → ma k j = 0) ∧ (∀ i, 200 * n ≤ i → i < 800 → ma 36 i = 0 ∧ ma 71 i = 0)
theorem ZR_keep {n : Nat} {ma a : Nat → Nat → Int32} (h : ZR n ma) (h1 : ∀ k j, n ≤ j → 33 ≤ k → k ≤ 70 → k ≠ 36 → a k j = ma k j) (h2 : ∀ i, 200 * n ≤ i → a 36 i = ma 36 i) (h3 : ∀ i, 200 * n ≤ i → a 71 i = ma 71 i) : ZR n a :=
  ⟨fun k j q1 q2 q3 q4 q5 => (h1 k j q1 q3 q4 q5).trans (h.1 k j q1 q2 q3 q4 q5), fun i q1 q2 => ⟨(h2 i q1).trans (h.2 i q1 q2).1, (h3 i q1).trans (h.2 i q1 q2).2⟩⟩
theorem ZR_all {n : Nat} {ma a : Nat → Nat → Int32} (h : ZR n ma) (h1 : ∀ k, 33 ≤ k → k ≤ 71 → a k = ma k) : ZR n a := ZR_keep h (fun k j _ q3 q4 _ => by rw [h1 k q3 (by omega)]) (fun i _ => by rw [h1 36 (by decide) (by decide)]) (fun i _ => by rw [h1 71 (by decide) (by decide)])
/-- the bench and the reference's rows -/
def BRq (n : Nat) (FX : Nat → Nat → Int32) (T : Int) (ov tf : Nat → Int32) (FV : FVt) (FJ : FJt) (go : Option S4) (gq : List S3) (GA : List A6) (mi : Nat → Int32) (ma : Nat → Nat → Int32) : Prop :=
  (n ≤ 4 ∧ mi 32 = nI n ∧ ZR n ma) ∧ (∀ j, j < n → FX j 0 = nI j ∧ FQ j T (FX j 1) (FX j 2) (FV j 0) (FV j 1) (FV j 2) (FV j 3) (FJ j 0) (FJ j 1) mi ma ∧ RVq j (FX j 3) (FV j 4) (FJ j 2) ma) ∧ RR ov tf go gq mi ma ∧ AQ GA mi ma
theorem FQ_same {F : Nat} {T : Int} {k0 g0 : Int32} {sv tv bv cv : Nat → Int32} {f g : Nat → Int64} {mi m : Nat → Int32} {ma a : Nat → Nat → Int32} (h : FQ F T k0 g0 sv tv bv cv f g mi ma) (e4 : m 4 = mi 4) (hk : ∀ k, 42 ≤ k → k ≤ 70 → a k F = ma k F) (h71 : ∀ i, i < 200 → a 71 (200 * F + i) = ma 71 (200 * F + i)) (h72 : ∀ i, i < 512 → a 72 (512 * F + i) = ma 72 (512 * F + i)) : FQ F T k0 g0 sv tv bv cv f g m a := by
  obtain ⟨h1, h2, h3⟩ := h
  refine ⟨SQ_congr h1 hk, by rw [e4]; exact SI_congr h2 hk, fun k3 => ?_⟩
  have hB := h3 k3
  refine BQ_keep hB (hk 44 (by decide) (by decide)) h71 (by rw [hk 46 (by decide) (by decide)]; exact Int.le_refl _) (fun hr => ?_)
  rw [hk 54 (by decide) (by decide)] at hr
  obtain ⟨r1, r2⟩ := hB.2.2.2.2 hr
  refine ⟨by rw [hk 56 (by decide) (by decide)]; exact r1, ?_⟩
  obtain ⟨s1, s2⟩ := r2
  refine ⟨fun m q1 q2 => ?_, fun m q1 q2 => ?_⟩
  · rw [hk 44 (by decide) (by decide)] at q1 q2
    rw [hk 46 (by decide) (by decide), h72 (m % 512) (by omega)]
    exact s1 m q1 q2
  · rw [hk 46 (by decide) (by decide)] at q1
    rw [hk 56 (by decide) (by decide)] at q2
    rw [h72 (m % 512) (by omega)]
    exact s2 m q1 q2
theorem BRq_keep {n : Nat} {FX : Nat → Nat → Int32} {T : Int} {ov tf : Nat → Int32} {FV : FVt} {FJ : FJt} {go : Option S4} {gq : List S3} {GA : List A6} {mi m : Nat → Int32} {ma a : Nat → Nat → Int32} (h : BRq n FX T ov tf FV FJ go gq GA mi ma) (hm : ∀ k, k ∉ ([10, 11, 12, 19, 73] : List Nat) → m k = mi k) (ha : ∀ k, k ∉ ([13, 14, 15, 16] : List Nat) → a k = ma k) : BRq n FX T ov tf FV FJ go gq GA m a := by
  obtain ⟨⟨h1, h2⟩, h3, h4, h5⟩ := h
  refine ⟨⟨h1, by rw [hm 32 (by decide)]; exact h2.1, ZR_all h2.2 (fun k k1 k2 => ha k (fun w => by revert w; simp only [List.mem_cons, List.not_mem_nil, or_false]; omega))⟩, fun j hj => ?_, ?_, ?_⟩
  · obtain ⟨q1, q2, q3⟩ := h3 j hj
    refine ⟨q1, FQ_same q2 (hm 4 (by decide)) (fun k k1 k2 => by rw [ha k (fun w => by revert w; simp only [List.mem_cons, List.not_mem_nil, or_false]; omega)]) (fun i _ => by rw [ha 71 (by decide)]) (fun i _ => by rw [ha 72 (by decide)]), RVq_keep q3 (fun k hk => by rw [ha k (fun w => by revert hk w; simp only [List.mem_cons, List.not_mem_nil, or_false]; omega)]) (fun i _ => by rw [ha 36 (by decide)]) (by rw [ha 46 (by decide)]; exact Int.le_refl _)⟩
  · exact RR_keep h4 (fun k hk => hm k (fun w => by revert hk w; simp only [List.mem_cons, List.not_mem_nil, or_false]; omega)) (fun k hk => ha k (fun w => by revert hk w; simp only [List.mem_cons, List.not_mem_nil, or_false]; omega)) (fun i => by rw [ha 46 (by decide)]; exact Int.le_refl _)
  · exact AQ_keep h5 (hm 17 (by decide)) (hm 18 (by decide)) (fun k hk => ha k (fun w => by revert hk w; simp only [List.mem_cons, List.not_mem_nil, or_false]; omega)) (fun f => by rw [ha 46 (by decide)]; exact Int.le_refl _)
theorem isf_1 {F n : Nat} (h : F < n) (hn : n ≤ 4) : isf (nI F) n = 1 := by
  unfold isf
  rw [if_neg (nn0 (by omega)), if_neg (fun w => by have := (nIle (by omega) (by omega)).mp w; omega)]
/-- what the receivers leave as it was -/
def CFR (mi : Nat → Int32) (ma : Nat → Nat → Int32) (m : Nat → Int32) (a : Nat → Nat → Int32) : Prop := (∀ k, k ∉ ([29, 17, 18, 19] : List Nat) → m k = mi k) ∧ ∀ k, (k < 20 ∨ (25 < k ∧ k < 33) ∨ 41 < k) → a k = ma k
theorem CFR_refl {mi : Nat → Int32} {ma : Nat → Nat → Int32} : CFR mi ma mi ma := ⟨fun _ _ => rfl, fun _ _ => rfl⟩
theorem CFR_trans {mi m m2 : Nat → Int32} {ma a a2 : Nat → Nat → Int32} (h : CFR mi ma m a) (h2 : CFR m a m2 a2) : CFR mi ma m2 a2 := ⟨fun k hk => (h2.1 k hk).trans (h.1 k hk), fun k hk => (h2.2 k hk).trans (h.2 k hk)⟩
theorem CFR_of {F : Nat} {mi m : Nat → Int32} {ma a : Nat → Nat → Int32} (h : RFR F mi ma m a) : CFR mi ma m a := ⟨h.1, fun k hk => funext fun i => h.2 k i (fun w => by revert w; simp only [List.mem_cons, List.not_mem_nil, or_false]; omega) (by omega)⟩
/-- a receiver's step, for the bench -/
theorem recv_bench {n F : Nat} {FX : Nat → Nat → Int32} {T : Int} {ov ov2 tf : Nat → Int32} {FV : FVt} {FJ : FJt} {go : Option S4} {gq : List S3} {GA GA2 : List A6} {mi m : Nat → Int32} {ma a : Nat → Nat → Int32} {rv2 : Nat → Int32} {kf2 : Nat → Int64} (h : BRq n FX T ov tf FV FJ go gq GA mi ma) (hF : F < n) (hV : RVq F (FX F 3) rv2 kf2 a) (hA : AQ GA2 m a) (hR : RFR F mi ma m a) (hRR : RR ov2 tf go gq m a) : BRq n FX T ov2 tf (va_up FV F (fpk (FV F 0) (FV F 1) (FV F 2) (FV F 3) rv2)) (va_up FJ F (fpj (FJ F 0) (FJ F 1) kf2)) go gq GA2 m a := by
  obtain ⟨⟨h1, h2⟩, h3, h4, h5⟩ := h
  have hC := CFR_of hR
  refine ⟨⟨h1, by rw [hC.1 32 (by decide)]; exact h2.1, ZR_keep h2.2 (fun k j q1 q3 q4 q5 => hR.2 k j (fun w => by revert w; simp only [List.mem_cons, List.not_mem_nil, or_false]; omega) (by omega)) (fun i hi => hR.2 36 i (by decide) (by omega)) (fun i hi => hR.2 71 i (by decide) (by omega))⟩, fun j hj => ?_, hRR, hA⟩
  obtain ⟨q1, q2, q3⟩ := h3 j hj
  have hFQ := FQ_same (m := m) (a := a) q2 (hC.1 4 (by decide)) (fun k k1 k2 => by rw [hC.2 k (by omega)]) (fun i _ => by rw [hC.2 71 (by omega)]) (fun i _ => by rw [hC.2 72 (by omega)])
  by_cases e : j = F
  · subst e
    rw [va_up_self, va_up_self]
    exact ⟨q1, hFQ, hV⟩
  · rw [va_up_ne _ _ e, va_up_ne _ _ e]
    refine ⟨q1, hFQ, RVq_keep q3 (fun k hk => hR.2 k j (fun w => by revert hk w; simp only [List.mem_cons, List.not_mem_nil, or_false]; omega) ?_) (fun i hi => hR.2 36 _ (by decide) (by omega)) (by rw [hC.2 46 (by omega)]; exact Int.le_refl _)⟩
    revert hk
    simp only [List.mem_cons, List.not_mem_nil, or_false]
    omega
theorem RR_came {ov tf : Nat → Int32} {go : Option S4} {gq : List S3} {mi m : Nat → Int32} {ma a : Nat → Nat → Int32} (h : RR ov tf go gq mi ma) (hC : CFR mi ma m a) (h29 : m 29 = mi 29 + 1) : RR (upd ov 14 (ov 14 + 1)) tf go gq m a := by
  obtain ⟨⟨hA, hB, hT, hN, hS, hL⟩, hq, n1, n2⟩ := h
  refine ⟨⟨?_, ?_, ?_, ?_, ?_, ?_⟩, hq, ?_, ?_⟩
  · simp (decide := true) only [upd_b, ne_eq, not_false_eq_true]
    rw [hC.1 0 (by decide), hC.1 1 (by decide), hC.1 2 (by decide), hC.1 3 (by decide)]
    exact hA
  · simp (decide := true) only [upd_a, upd_b, ne_eq, not_false_eq_true]
    rw [hC.1 30 (by decide), hC.1 26 (by decide), hC.1 27 (by decide), hC.1 28 (by decide), h29]
    exact ⟨hB.1, hB.2.1, hB.2.2.1, hB.2.2.2.1, by rw [hB.2.2.2.2]⟩
  · rw [hC.2 31 (by omega)]
    exact hT
  · rw [hC.1 6 (by decide)]
    exact hN
  · rw [hC.1 6 (by decide), hC.1 5 (by decide), hC.2 7 (by omega), hC.2 8 (by omega), hC.2 9 (by omega)]
    exact hS
  · rw [hC.2 7 (by omega), hC.2 8 (by omega), hC.2 9 (by omega)]
    exact hL
  · rw [hC.2 46 (by omega)]
    exact n1
  · rw [hC.2 46 (by omega)]
    exact n2
theorem RR_cfr {ov tf : Nat → Int32} {go : Option S4} {gq : List S3} {mi m : Nat → Int32} {ma a : Nat → Nat → Int32} (h : RR ov tf go gq mi ma) (hC : CFR mi ma m a) (h29 : m 29 = mi 29) : RR ov tf go gq m a := RR_keep h (fun k hk => by
  by_cases e : k = 29
  · rw [e]; exact h29
  · exact hC.1 k (fun w => by revert hk w; simp only [List.mem_cons, List.not_mem_nil, or_false]; omega)) (fun k hk => hC.2 k (by revert hk; simp only [List.mem_cons, List.not_mem_nil, or_false]; omega)) (fun i => by rw [hC.2 46 (by omega)]; exact Int.le_refl _)
/-- one segment that is due -/
theorem seg_step {n F : Nat} {FX : Nat → Nat → Int32} {T : Int} {ov tf : Nat → Int32} {FV : FVt} {FJ : FJt} {go : Option S4} {gq : List S3} {GA : List A6} {mi m : Nat → Int32} {ma a : Nat → Nat → Int32} {r g pb : Int32} {c : S4} (h : BRq n FX T ov tf FV FJ go gq GA mi ma) (hF : F < n) (hc : c.2 = (nI F, g, pb)) (hc1 : c.1 = mi 4) (hpb : pb = 0 ∨ pb = 1) (hg : g.toInt < (ma 46 F).toInt) (hx : x_receives (nI F) g pb mi ma = some (m, a, r)) : ∃ ov2 FV2 FJ2 GA2, (∀ gw, xc_segs n FX (mi 4) (c :: gw) ov tf FV FJ go gq (srtA GA) = xc_segs n FX (mi 4) gw ov2 tf FV2 FJ2 go gq (srtA GA2)) ∧ BRq n FX T ov2 tf FV2 FJ2 go gq GA2 m a ∧ CFR mi ma m a := by
  have hb := h
  obtain ⟨⟨h1, h2⟩, h3, h4, h5⟩ := hb
  obtain ⟨q1, q2, q3⟩ := h3 F hF
  have hov : upd ov 14 (ov 14 + 1) 3 = mi 3 := by rw [upd_b (by decide)]; exact h4.1.1.2.2.2
  have hpk : c.2.2 = (g, pb) := by rw [hc]
  obtain ⟨rv2, kf2, GA2, y1, y2, y3, y4, y5, y6⟩ := take_pair (show F < 4 by omega) (ov := upd ov 14 (ov 14 + 1)) (pk := c) q3 h5 hpk hpb hov hg hx
  refine ⟨upd ov 14 (ov 14 + 1), va_up FV F (fpk (FV F 0) (FV F 1) (FV F 2) (FV F 3) rv2), va_up FJ F (fpj (FJ F 0) (FJ F 1) kf2), GA2, fun gw => ?_, recv_bench h hF y2 y3 y4 (RR_came h4 (CFR_of y4) y5), CFR_of y4⟩
  rw [xc_segs, if_pos (show c.1 ≤ mi 4 by rw [hc1]; exact Int32.le_refl _)]
  have e1 : c.2.1 = nI F := by rw [hc]
  simp only [bd_eq]
  rw [e1, isf_1 hF h1, nI_clamp (show F < 2 ^ 31 by omega), if_neg (show ¬ (1 : Int32) = 0 by decide), q1, y1]

theorem SFR_46 {F : Nat} {mi m : Nat → Int32} {ma a : Nat → Nat → Int32} (h : SFR F mi ma m a) (f : Nat) : (ma 46 f).toInt ≤ (a 46 f).toInt := by
  by_cases e : f = F
  · rw [e]
    exact h.2.2
  · rw [h.2.1 46 f (by decide) (by omega)]
    exact Int.le_refl _
theorem SFR_lo {F : Nat} {mi m : Nat → Int32} {ma a : Nat → Nat → Int32} (h : SFR F mi ma m a) {k : Nat} (hk : k < 42) (hk2 : k ∉ ([7, 8, 9, 31] : List Nat)) : a k = ma k := funext fun i => h.2.1 k i hk2 (by omega)
/-- a sender's step, for the bench -/
theorem send_bench {n F : Nat} {FX : Nat → Nat → Int32} {T : Int} {ov ov2 tf tf2 : Nat → Int32} {FV : FVt} {FJ : FJt} {go go2 : Option S4} {gq gq2 : List S3} {GA : List A6} {mi m : Nat → Int32} {ma a : Nat → Nat → Int32} {sv tv bv cv : Nat → Int32} {f g : Nat → Int64} (h : BRq n FX T ov tf FV FJ go gq GA mi ma) (hF : F < n) (hQ : FQ F T (FX F 1) (FX F 2) sv tv bv cv f g m a) (hR : SFR F mi ma m a) (hRR : RR ov2 tf2 go2 gq2 m a) : BRq n FX T ov2 tf2 (va_up FV F (fpk sv tv bv cv (FV F 4))) (va_up FJ F (fpj f g (FJ F 2))) go2 gq2 GA m a := by
  obtain ⟨⟨h1, h2⟩, h3, h4, h5⟩ := h
  refine ⟨⟨h1, by rw [hR.1 32 (by decide)]; exact h2.1, ZR_keep h2.2 (fun k j q1 q3 q4 q5 => hR.2.1 k j (fun w => by revert w; simp only [List.mem_cons, List.not_mem_nil, or_false]; omega) (by omega)) (fun i hi => hR.2.1 36 i (by decide) (by omega)) (fun i hi => hR.2.1 71 i (by decide) (by omega))⟩, fun j hj => ?_, hRR, AQ_keep h5 (hR.1 17 (by decide)) (hR.1 18 (by decide)) (fun k hk => SFR_lo hR (by revert hk; simp only [List.mem_cons, List.not_mem_nil, or_false]; omega) (fun w => by revert hk w; simp only [List.mem_cons, List.not_mem_nil, or_false]; omega)) (SFR_46 hR)⟩
  obtain ⟨q1, q2, q3⟩ := h3 j hj
  have hV : RVq j (FX j 3) (FV j 4) (FJ j 2) a := RVq_keep q3 (fun k hk => by rw [SFR_lo hR (by revert hk; simp only [List.mem_cons, List.not_mem_nil, or_false]; omega) (fun w => by revert hk w; simp only [List.mem_cons, List.not_mem_nil, or_false]; omega)]) (fun i _ => by rw [SFR_lo hR (by decide) (by decide)]) (SFR_46 hR j)
  by_cases e : j = F
  · subst e
    rw [va_up_self, va_up_self]
    exact ⟨q1, hQ, hV⟩
  · rw [va_up_ne _ _ e, va_up_ne _ _ e]
    refine ⟨q1, FQ_same q2 (hR.1 4 (by decide)) (fun k k1 k2 => hR.2.1 k j (fun w => by revert w; simp only [List.mem_cons, List.not_mem_nil, or_false]; omega) (by omega)) (fun i hi => hR.2.1 71 _ (by decide) (by omega)) (fun i hi => hR.2.1 72 _ (by decide) (by omega)), hV⟩
theorem heard_F {n K : Nat} {f : Int32} {mi m : Nat → Int32} {ma a : Nat → Nat → Int32} {r : Int32} (hn : n ≤ 4) (h32 : mi 32 = nI n) (hx : x_heard f (nI K) mi ma = some (m, a, r)) : ∃ F, F < n ∧ f = nI F := by
  unfold x_heard at hx
  obtain ⟨⟨_, ⟨h0, h1⟩, _⟩, _⟩ := ax_some hx
  rw [h32, nI_toInt (by omega)] at h1
  exact ⟨f.toInt.toNat, by omega, nIof h0⟩
/-- one ack that is due -/
theorem ack_step {n K : Nat} {FX : Nat → Nat → Int32} {T : Int} {ov tf : Nat → Int32} {FV : FVt} {FJ : FJt} {go : Option S4} {gq : List S3} {gw : List S4} {GA : List A6} {mi m : Nat → Int32} {ma a : Nat → Nat → Int32} {r : Int32} {c : A6} (h : BRq n FX T ov tf FV FJ go gq GA mi ma) (hT : T = (mi 4).toInt) (hK : K < 6000) (hc : AE c K ma) (hc1 : c.1 = mi 4) (hx : x_heard (ma 21 K) (nI K) mi ma = some (m, a, r)) : ∃ F ov2 tf2 FV2 FJ2 go2 gq2, (∀ ga, xc_acks n FX (mi 4) (c :: ga) ov tf FV FJ go gq gw = xc_acks n FX (mi 4) ga ov2 tf2 FV2 FJ2 go2 gq2 gw) ∧ BRq n FX T ov2 tf2 FV2 FJ2 go2 gq2 GA m a ∧ SFR F mi ma m a := by
  have hn := h.1.1
  obtain ⟨F, hF, ef⟩ := heard_F hn h.1.2.1 hx
  rw [ef] at hx
  obtain ⟨q1, q2, q3⟩ := h.2.1 F hF
  have hF2 : (nI F).toNatClampNeg = F := nI_clamp (by omega)
  have hak : AKq F K c ma := by
    have := hc.2.2.2
    rw [ef, hF2] at this
    exact this
  obtain ⟨sv2, tv2, bv2, cv2, f2, g2, ov2, tf2, go2, gq2, y1, y2, y3, y4⟩ := heard_pair (show F < 4 by omega) hK q2 h.2.2.1 hT hak hx
  refine ⟨F, ov2, tf2, _, _, go2, gq2, fun ga => ?_, send_bench h hF y2 y4 y3, y4⟩
  rw [xc_acks, if_pos (show c.1 ≤ mi 4 by rw [hc1]; exact Int32.le_refl _)]
  have e1 : c.2.1 = nI F := hc.2.1.trans ef
  simp only [bd_eq]
  rw [e1, isf_1 hF hn, hF2, if_neg (show ¬ (1 : Int32) = 0 by decide), q1, y1]
/-- what the senders leave as it was -/
def HFR (mi : Nat → Int32) (ma : Nat → Nat → Int32) (m : Nat → Int32) (a : Nat → Nat → Int32) : Prop := (∀ k, k ∉ ([5, 6, 26, 27, 28, 30, 73, 17, 18] : List Nat) → m k = mi k) ∧ (∀ k, k < 42 → k ∉ ([7, 8, 9, 31, 20, 21, 22, 23, 24, 25] : List Nat) → a k = ma k) ∧ ∀ f, (ma 46 f).toInt ≤ (a 46 f).toInt
theorem HFR_refl {mi : Nat → Int32} {ma : Nat → Nat → Int32} : HFR mi ma mi ma := ⟨fun _ _ => rfl, fun _ _ _ => rfl, fun _ => Int.le_refl _⟩
theorem HFR_trans {mi m m2 : Nat → Int32} {ma a a2 : Nat → Nat → Int32} (h : HFR mi ma m a) (h2 : HFR m a m2 a2) : HFR mi ma m2 a2 := ⟨fun k hk => (h2.1 k hk).trans (h.1 k hk), fun k h1 hk => (h2.2.1 k h1 hk).trans (h.2.1 k h1 hk), fun f => Int.le_trans (h.2.2 f) (h2.2.2 f)⟩
theorem HFR_s {F : Nat} {mi m : Nat → Int32} {ma a : Nat → Nat → Int32} (h : SFR F mi ma m a) : HFR mi ma m a := ⟨fun k hk => h.1 k (fun w => hk (by revert w; exact sub_of (by decide) k)), fun k h1 hk => SFR_lo h h1 (fun w => hk (by revert w; exact sub_of (by decide) k)), SFR_46 h⟩
theorem filtA_none {t : Int32} {l : List A6} (h : ∀ e, e ∈ l → ¬ e.1 = t) : l.filter (fun e => decide (e.1 = t)) = [] ∧ l.filter (fun e => ! decide (e.1 = t)) = l := by
  refine ⟨List.filter_eq_nil_iff.mpr (fun e he => by simp [h e he]), List.filter_eq_self.mpr (fun e he => by simp [h e he])⟩
theorem BRq_GA {n : Nat} {FX : Nat → Nat → Int32} {T : Int} {ov tf : Nat → Int32} {FV : FVt} {FJ : FJt} {go : Option S4} {gq : List S3} {GA GA2 : List A6} {mi m : Nat → Int32} {ma a : Nat → Nat → Int32} (h : BRq n FX T ov tf FV FJ go gq GA mi ma) (hm : ∀ k, k ≠ 17 → k ≠ 18 → m k = mi k) (ha : ∀ k, k ∉ ([20, 21, 22, 23, 24, 25] : List Nat) → a k = ma k) (hA : AQ GA2 m a) : BRq n FX T ov tf FV FJ go gq GA2 m a := by
  obtain ⟨⟨h1, h2⟩, h3, h4, h5⟩ := h
  refine ⟨⟨h1, by rw [hm 32 (by decide) (by decide)]; exact h2.1, ZR_all h2.2 (fun k k1 k2 => ha k (fun w => by revert w; simp only [List.mem_cons, List.not_mem_nil, or_false]; omega))⟩, fun j hj => ?_, RR_keep h4 (fun k hk => hm k (fun e => by rw [e] at hk; revert hk; decide) (fun e => by rw [e] at hk; revert hk; decide)) (fun k hk => ha k (fun w => by revert hk w; simp only [List.mem_cons, List.not_mem_nil, or_false]; omega)) (fun i => by rw [ha 46 (by decide)]; exact Int.le_refl _), hA⟩
  obtain ⟨q1, q2, q3⟩ := h3 j hj
  refine ⟨q1, FQ_same q2 (hm 4 (by decide) (by decide)) (fun k k1 k2 => by rw [ha k (fun w => by revert w; simp only [List.mem_cons, List.not_mem_nil, or_false]; omega)]) (fun i _ => by rw [ha 71 (by decide)]) (fun i _ => by rw [ha 72 (by decide)]), RVq_keep q3 (fun k hk => by rw [ha k (fun w => by revert hk w; simp only [List.mem_cons, List.not_mem_nil, or_false]; omega)]) (fun i _ => by rw [ha 36 (by decide)]) (by rw [ha 46 (by decide)]; exact Int.le_refl _)⟩
theorem hears17 {n : Nat} {FX : Nat → Nat → Int32} {T : Int} {gw : List S4} : ∀ (GA : List A6) (fu : Nat) (ov tf : Nat → Int32) (FV : FVt) (FJ : FJt) (go : Option S4) (gq : List S3) (mi : Nat → Int32) (ma : Nat → Nat → Int32) (m : Nat → Int32) (a : Nat → Nat → Int32) (r : Int32), BRq n FX T ov tf FV FJ go gq GA mi ma → T = (mi 4).toInt → GA.Pairwise (fun x y => x.1 ≤ y.1) → (∀ e, e ∈ GA → mi 4 ≤ e.1) → GA.length < fu → x_hears_17 fu mi ma = some (m, a, r) → ∃ ov2 tf2 FV2 FJ2 go2 gq2, (∀ R, xc_acks n FX (mi 4) (GA.filter (fun e => decide (e.1 = mi 4)) ++ R) ov tf FV FJ go gq gw = xc_acks n FX (mi 4) R ov2 tf2 FV2 FJ2 go2 gq2 gw) ∧ BRq n FX T ov2 tf2 FV2 FJ2 go2 gq2 (GA.filter (fun e => ! decide (e.1 = mi 4))) m a ∧ HFR mi ma m a
  | GA, 0, ov, tf, FV, FJ, go, gq, mi, ma, m, a, r, h, hT, hs, ht, hf, hx => by omega
  | [], fu + 1, ov, tf, FV, FJ, go, gq, mi, ma, m, a, r, h, hT, hs, ht, hf, hx => by
    rw [x_hears_17] at hx
    simp only [bd_eq] at hx
    have w := h.2.2.2.1
    rw [if_pos (Int32.le_iff_toInt_le.mpr (by have := w.2.1; simp at this; omega))] at hx
    have hx := Option.some.inj hx
    have q1 : mi = m := congrArg Prod.fst hx
    have q2 : ma = a := congrArg (fun x => x.2.1) hx
    subst q1 q2
    exact ⟨ov, tf, FV, FJ, go, gq, fun R => rfl, h, HFR_refl⟩
  | e :: GA, fu + 1, ov, tf, FV, FJ, go, gq, mi, ma, m, a, r, h, hT, hs, ht, hf, hx => by
    rw [x_hears_17] at hx
    simp only [bd_eq] at hx
    obtain ⟨⟨w1, w2, w3⟩, w4⟩ := h.2.2.2
    have hln : (e :: GA).length = GA.length + 1 := rfl
    rw [if_neg (fun w => by have := Int32.le_iff_toInt_le.mp w; rw [hln] at w2; omega)] at hx
    have p := w4 0 e rfl
    rw [show (mi 17).toInt.toNat + 0 = (mi 17).toInt.toNat from rfl] at p
    have h17 : (mi 17).toNatClampNeg = (mi 17).toInt.toNat := by
      conv => lhs; rw [nIof w1]
      exact nI_clamp (by omega)
    rw [h17, ← p.1] at hx
    by_cases c : e.1 = mi 4
    · rw [if_pos c] at hx
      have t1 : (mi 17 + 1).toInt = (mi 17).toInt + 1 := ti_add1 (by omega)
      have hb1 : ∀ x : Int32, (upd mi 17 x 17 - 1) = x - 1 := fun x => by rw [upd_a]
      have hsub : (mi 17 + 1 - 1) = mi 17 := Int32.add_sub_cancel _ _
      rw [hb1, hsub, h17] at hx
      obtain ⟨m1, hm1⟩ : ∃ y, y = upd mi 17 (mi 17 + 1) := ⟨_, rfl⟩
      rw [← hm1] at hx
      obtain ⟨m', a', r', y1, y2⟩ := bo_some hx
      have k1 : ∀ k, k ≠ 17 → m1 k = mi k := fun k hk => by rw [hm1]; exact upd_b hk
      have hA1 : AQ GA m1 ma := by
        refine ⟨?_, fun k x hk => ?_⟩
        · rw [hm1, upd_a, upd_b (by decide), t1]
          rw [hln] at w2
          omega
        · have := w4 (k + 1) x hk
          rw [hm1, upd_a, t1, show ((mi 17).toInt + 1).toNat + k = (mi 17).toInt.toNat + (k + 1) by omega]
          exact this
      have hB1 : BRq n FX T ov tf FV FJ go gq GA m1 ma := BRq_GA h (fun k h1 _ => k1 k h1) (fun _ _ => rfl) hA1
      obtain ⟨F, ov2, tf2, FV2, FJ2, go2, gq2, z1, z2, z3⟩ := ack_step (gw := gw) (K := (mi 17).toInt.toNat) hB1 (by rw [k1 4 (by decide)]; exact hT) (by rw [hln] at w2; omega) p (by rw [c, k1 4 (by decide)]) (by rw [← nIof w1]; exact y1)
      rw [k1 4 (by decide)] at z1
      have m4 : m' 4 = mi 4 := (z3.1 4 (by decide)).trans (k1 4 (by decide))
      obtain ⟨ov3, tf3, FV3, FJ3, go3, gq3, v1, v2, v3⟩ := hears17 GA fu ov2 tf2 FV2 FJ2 go2 gq2 m' a' m a r z2 (by rw [m4]; exact hT) (List.Pairwise.of_cons hs) (fun x hx => by rw [m4]; exact ht x (List.mem_cons_of_mem _ hx)) (by rw [hln] at hf; omega) y2
      rw [m4] at v1 v2
      refine ⟨ov3, tf3, FV3, FJ3, go3, gq3, fun R => ?_, ?_, HFR_trans ⟨fun k hk => k1 k (fun e => hk (by rw [e]; decide)), fun _ _ _ => rfl, fun _ => Int.le_refl _⟩ (HFR_trans (HFR_s z3) v3)⟩
      · rw [List.filter_cons_of_pos (by simp [c]), List.cons_append, z1, v1]
      · rw [List.filter_cons_of_neg (by simp [c])]
        exact v2
    · rw [if_neg c] at hx
      have hx := Option.some.inj hx
      have q1 : mi = m := congrArg Prod.fst hx
      have q2 : ma = a := congrArg (fun x => x.2.1) hx
      subst q1 q2
      have hno : ∀ x, x ∈ e :: GA → ¬ x.1 = mi 4 := by
        intro x hx2 w
        have he := ht e (List.mem_cons_self ..)
        rcases List.mem_cons.mp hx2 with z | z
        · rw [z] at w
          exact c w
        · have := (List.pairwise_cons.mp hs).1 x z
          rw [w] at this
          exact c (Int32.le_antisymm this he)
      obtain ⟨f1, f2⟩ := filtA_none hno
      rw [f1, f2]
      exact ⟨ov, tf, FV, FJ, go, gq, fun R => rfl, h, HFR_refl⟩

def ovi : Nat → Int32 := fun k => if k = 0 then 10 else if k < 4 then 20 else 0
/-- class and reference stand for the same bench -/
def RLq (n : Nat) (FX : Nat → Nat → Int32) (nw : Int32) (ov tf : Nat → Int32) (FV : FVt) (FJ : FJt) (go : Option S4) (gq : List S3) (gw : List S4) (ga : List A6) (mi : Nat → Int32) (ma : Nat → Nat → Int32) : Prop := ∃ GA GW, nw = mi 4 ∧ gw = srtS GW ∧ ga = srtA GA ∧ BRq n FX (mi 4).toInt ov tf FV FJ go gq GA mi ma ∧ WQ GW mi ma
/-- the class's tables, packed anew -/
def PKD (n : Nat) (FV FV2 : FVt) (FJ FJ2 : FJt) : Prop := ∀ j, j < n → (FV2 j 0 = FV j 0 ∧ FV2 j 1 = FV j 1 ∧ FV2 j 2 = FV j 2 ∧ FV2 j 3 = FV j 3 ∧ FV2 j 4 = FV j 4) ∧ (FJ2 j 0 = FJ j 0 ∧ FJ2 j 1 = FJ j 1 ∧ FJ2 j 2 = FJ j 2)
theorem PKD_refl {n : Nat} {FV : FVt} {FJ : FJt} : PKD n FV FV FJ FJ := fun _ _ => ⟨⟨rfl, rfl, rfl, rfl, rfl⟩, rfl, rfl, rfl⟩
theorem PKD_pack {n F : Nat} {FV : FVt} {FJ : FJt} : PKD n FV (va_up FV F (fpk (FV F 0) (FV F 1) (FV F 2) (FV F 3) (FV F 4))) FJ (va_up FJ F (fpj (FJ F 0) (FJ F 1) (FJ F 2))) := fun j hj => by
  by_cases e : j = F
  · subst e
    rw [va_up_self, va_up_self]
    exact ⟨⟨rfl, rfl, rfl, rfl, rfl⟩, rfl, rfl, rfl⟩
  · rw [va_up_ne _ _ e, va_up_ne _ _ e]
    exact ⟨⟨rfl, rfl, rfl, rfl, rfl⟩, rfl, rfl, rfl⟩
theorem BRq_pkd {n : Nat} {FX : Nat → Nat → Int32} {T : Int} {ov tf : Nat → Int32} {FV FV2 : FVt} {FJ FJ2 : FJt} {go : Option S4} {gq : List S3} {GA : List A6} {mi : Nat → Int32} {ma : Nat → Nat → Int32} (h : BRq n FX T ov tf FV FJ go gq GA mi ma) (p : PKD n FV FV2 FJ FJ2) : BRq n FX T ov tf FV2 FJ2 go gq GA mi ma := by
  refine ⟨h.1, fun j hj => ?_, h.2.2⟩
  obtain ⟨⟨a0, a1, a2, a3, a4⟩, b0, b1, b2⟩ := p j hj
  rw [a0, a1, a2, a3, a4, b0, b1, b2]
  exact h.2.1 j hj
/-- a method that only reads -/
theorem RL_read {n : Nat} {FX : Nat → Nat → Int32} {nw : Int32} {ov tf : Nat → Int32} {FV FV2 : FVt} {FJ FJ2 : FJt} {go : Option S4} {gq : List S3} {gw : List S4} {ga : List A6} {mi m : Nat → Int32} {ma a : Nat → Nat → Int32} (h : RLq n FX nw ov tf FV FJ go gq gw ga mi ma) (p : PKD n FV FV2 FJ FJ2) (hm : ∀ k, k ∉ ([73] : List Nat) → m k = mi k) (ha : ∀ k, k ∉ ([] : List Nat) → a k = ma k) : RLq n FX nw ov tf FV2 FJ2 go gq gw ga m a := by
  obtain ⟨GA, GW, h1, h2, h3, h4, h5⟩ := h
  have e4 : m 4 = mi 4 := hm 4 (by decide)
  refine ⟨GA, GW, by rw [e4]; exact h1, h2, h3, ?_, ?_⟩
  · rw [e4]
    exact BRq_keep (BRq_pkd h4 p) (fun k hk => hm k (fun w => hk (by revert w; exact sub_of (by decide) k))) (fun k _ => ha k (by simp))
  · exact WQ_keep h5 (hm 10 (by decide)) (hm 11 (by decide)) (fun k _ => ha k (by simp)) (fun f => by rw [ha 46 (by simp)]; exact Int.le_refl _)
theorem RL_tick {n : Nat} {FX : Nat → Nat → Int32} {nw : Int32} {ov tf : Nat → Int32} {FV : FVt} {FJ : FJt} {go : Option S4} {gq : List S3} {gw : List S4} {ga : List A6} {mi : Nat → Int32} {ma : Nat → Nat → Int32} (h : RLq n FX nw ov tf FV FJ go gq gw ga mi ma) : mi 32 = nI n ∧ n ≤ 4 := by
  obtain ⟨GA, GW, h1, h2, h3, h4, h5⟩ := h
  exact ⟨h4.1.2.1, h4.1.1⟩
theorem isFlow_eq {n : Nat} {f : Int32} {mi : Nat → Int32} {ma : Nat → Nat → Int32} (h : mi 32 = nI n) : x_isFlow f mi ma = (mi, ma, isf f n) := by
  unfold x_isFlow isf
  simp only [bd_eq]
  rw [h]
  by_cases c : f < 0
  · rw [if_pos c, if_pos c]
  · rw [if_neg c, if_neg c]
    by_cases d : nI n ≤ f
    · rw [if_pos d, if_pos d]
    · rw [if_neg d, if_neg d]
theorem ex_ite {α β : Type} {c : Prop} [Decidable c] {a b : α} {P : β → α} (h1 : ∃ r, a = P r) (h2 : ∃ r, b = P r) : ∃ r, (if c then a else b) = P r := by
  by_cases h : c
  · rw [if_pos h]
    exact h1
  · rw [if_neg h]
    exact h2
theorem xc_tellMore_st {F : Nat} {T : Int} {n0 k0 g0 n1 : Int32} {sv tv bv cv : Nat → Int32} {f g : Nat → Int64} {mi : Nat → Int32} {a : Nat → Nat → Int32} (h : FQ F T k0 g0 sv tv bv cv f g mi a) (hn : NB F a) : ∃ r, xc_stell n0 k0 g0 sv tv bv cv f g n1 = (sv, tv, bv, cv, f, g, r) := by
  have hm : ∃ r, xc_tellMore n0 k0 g0 sv tv bv cv f g n1 = (sv, tv, bv, cv, f, g, r) := by
    unfold xc_tellMore
    simp only [bd_eq, xc_out_eq (n0 := n0) h hn]
    repeat' first | exact ⟨_, rfl⟩ | apply ex_ite (P := fun r => (sv, tv, bv, cv, f, g, r))
  obtain ⟨r, hm⟩ := hm
  unfold xc_stell
  simp only [bd_eq, hm]
  repeat' first | exact ⟨_, rfl⟩ | apply ex_ite (P := fun r => (sv, tv, bv, cv, f, g, r))
theorem isf_F {n : Nat} {f : Int32} (hn : n ≤ 4) (h : ¬ isf f n = 0) : ∃ F, F < n ∧ f = nI F := by
  unfold isf at h
  by_cases c : f < 0
  · rw [if_pos c] at h
    exact absurd rfl h
  · rw [if_neg c] at h
    by_cases d : nI n ≤ f
    · rw [if_pos d] at h
      exact absurd rfl h
    · have c2 : ¬ f.toInt < 0 := fun w => c (Int32.lt_iff_toInt_lt.mpr w)
      have d2 : ¬ (nI n).toInt ≤ f.toInt := fun w => d (Int32.le_iff_toInt_le.mpr w)
      rw [nI_toInt (by omega)] at d2
      exact ⟨f.toInt.toNat, by omega, nIof (by omega)⟩
theorem RL_NB {n F : Nat} {FX : Nat → Nat → Int32} {nw : Int32} {ov tf : Nat → Int32} {FV : FVt} {FJ : FJt} {go : Option S4} {gq : List S3} {gw : List S4} {ga : List A6} {mi : Nat → Int32} {ma : Nat → Nat → Int32} (h : RLq n FX nw ov tf FV FJ go gq gw ga mi ma) (hI : MB mi ma) (hF : F < n) : NB F ma := by
  obtain ⟨GA, GW, h1, h2, h3, h4, h5⟩ := h
  have hn := h4.1.1
  obtain ⟨q1, q2, q3⟩ := h4.2.1 F hF
  have q4 := q2.2.1.2.2.2.2.2.2.1
  have u := MB_una hI F (by omega)
  have v := MB_le2h hI F (by omega)
  have e : ∀ k, col ma F k = ma k F := fun _ => rfl
  rw [e, e, e] at q4
  exact ⟨u.1, u.2, by omega, v⟩
theorem sender_pkd {n : Nat} {FX : Nat → Nat → Int32} {nw a1 a2 : Int32} {ov tf : Nat → Int32} {FV : FVt} {FJ : FJt} {go : Option S4} {gq : List S3} {gw : List S4} {ga : List A6} {mi : Nat → Int32} {ma : Nat → Nat → Int32} (h : RLq n FX nw ov tf FV FJ go gq gw ga mi ma) (hI : MB mi ma) : PKD n FV (xc_sender n FX FV FJ a1 a2).1 FJ (xc_sender n FX FV FJ a1 a2).2.1 := by
  unfold xc_sender
  simp only [bd_eq]
  by_cases c : isf a1 n = 0
  · rw [if_pos c]
    exact PKD_refl
  · rw [if_neg c]
    obtain ⟨F, hF, rfl⟩ := isf_F (RL_tick h).2 c
    have hn := RL_NB h hI hF
    obtain ⟨GA, GW, h1, h2, h3, h4, h5⟩ := h
    have hn4 := h4.1.1
    obtain ⟨q1, q2, q3⟩ := h4.2.1 F hF
    rw [nI_clamp (show F < 2 ^ 31 by omega)]
    obtain ⟨r, hr⟩ := xc_tellMore_st (n0 := FX F 0) (n1 := a2) q2 hn
    rw [hr]
    exact PKD_pack
theorem receiver_pkd {n : Nat} {FX : Nat → Nat → Int32} {a1 a2 : Int32} {FV : FVt} {FJ : FJt} : PKD n FV (xc_receiver n FX FV FJ a1 a2).1 FJ (xc_receiver n FX FV FJ a1 a2).2.1 := by
  have hm : ∀ (n0 w0 n1 : Int32) (rv : Nat → Int32) (f : Nat → Int64), ∃ r, xc_rtell n0 w0 rv f n1 = (rv, f, r) := fun n0 w0 n1 rv f => by
    unfold xc_rtell
    simp only [bd_eq]
    repeat' first | exact ⟨_, rfl⟩ | apply ex_ite (P := fun r => (rv, f, r))
  unfold xc_receiver
  simp only [bd_eq]
  by_cases c : isf a1 n = 0
  · rw [if_pos c]
    exact PKD_refl
  · rw [if_neg c]
    obtain ⟨r, hr⟩ := hm (FX a1.toNatClampNeg 0) (FX a1.toNatClampNeg 3) a2 (FV a1.toNatClampNeg 4) (FJ a1.toNatClampNeg 2)
    rw [hr]
    exact PKD_pack
theorem most_pkd {n : Nat} {FX : Nat → Nat → Int32} {a1 : Int32} {FV : FVt} {FJ : FJt} : PKD n FV (xc_most n FX FV FJ a1).1 FJ (xc_most n FX FV FJ a1).2.1 := by
  unfold xc_most
  simp only [bd_eq]
  by_cases c : isf a1 n = 0
  · rw [if_pos c]
    exact PKD_refl
  · rw [if_neg c]
    exact PKD_pack
theorem has_f {f : Nat → Int64} {n : Int32} : ∃ v, xc_has f n = (f, v) := by
  unfold xc_has
  simp only [bd_eq]
  exact ex_ite (P := fun r => (f, r)) ⟨_, rfl⟩ ⟨_, rfl⟩
theorem lk7_st {n0 w0 n1 : Int32} {rv : Nat → Int32} {f : Nat → Int64} : ∀ (fu : Nat) (i1 i2 i3 : Int32), ∃ r, xc_leastKept_7 n0 w0 n1 fu rv f i1 i2 i3 = (rv, f, r)
  | 0, i1, i2, i3 => ⟨0, by rw [xc_leastKept_7]⟩
  | fu + 1, i1, i2, i3 => by
    rw [xc_leastKept_7]
    obtain ⟨v, hv⟩ := has_f (f := f) (n := i3)
    unfold xc_leastKept_43
    simp only [bd_eq, hv]
    refine ex_ite (P := fun r => (rv, f, r)) ⟨_, rfl⟩ (ex_ite (P := fun r => (rv, f, r)) ⟨_, rfl⟩ (ex_ite (P := fun r => (rv, f, r)) (lk7_st fu _ _ _) (ex_ite (P := fun r => (rv, f, r)) ⟨_, rfl⟩ (lk7_st fu _ _ _))))
theorem kept_pkd {n : Nat} {FX : Nat → Nat → Int32} {a1 a2 : Int32} {FV : FVt} {FJ : FJt} : PKD n FV (xc_kept n FX FV FJ a1 a2).1 FJ (xc_kept n FX FV FJ a1 a2).2.1 := by
  have hm : ∀ (n0 w0 n1 : Int32) (rv : Nat → Int32) (f : Nat → Int64), ∃ r, xc_leastKept n0 w0 rv f n1 = (rv, f, r) := fun n0 w0 n1 rv f => by
    unfold xc_leastKept
    simp only [bd_eq]
    exact lk7_st _ _ _ _
  unfold xc_kept
  simp only [bd_eq]
  by_cases c : isf a1 n = 0
  · rw [if_pos c]
    exact PKD_refl
  · rw [if_neg c]
    obtain ⟨r, hr⟩ := hm (FX a1.toNatClampNeg 0) (FX a1.toNatClampNeg 3) a2 (FV a1.toNatClampNeg 4) (FJ a1.toNatClampNeg 2)
    rw [hr]
    exact PKD_pack
/-- link -/
theorem RLq_link {n : Nat} {FX : Nat → Nat → Int32} {nw a1 a2 a3 a4 : Int32} {ov tf : Nat → Int32} {FV : FVt} {FJ : FJt} {go : Option S4} {gq : List S3} {gw : List S4} {ga : List A6} {mi : Nat → Int32} {ma : Nat → Nat → Int32} (h : RLq n FX nw ov tf FV FJ go gq gw ga mi ma) : RLq n FX nw (xc_link ov a1 a2 a3 a4) tf FV FJ go gq gw ga (x_link a1 a2 a3 a4 mi ma).1 (x_link a1 a2 a3 a4 mi ma).2.1 := by
  unfold xc_link x_link
  simp only [bd_eq]
  by_cases c1 : wi a1 1 100 = 0
  · rw [if_pos c1, if_pos c1]
    exact h
  rw [if_neg c1, if_neg c1]
  by_cases c2 : wi a2 0 100 = 0
  · rw [if_pos c2, if_pos c2]
    exact h
  rw [if_neg c2, if_neg c2]
  by_cases c3 : wi a3 1 1000 = 0
  · rw [if_pos c3, if_pos c3]
    exact h
  rw [if_neg c3, if_neg c3]
  by_cases c4 : wi a4 1 1000 = 0
  · rw [if_pos c4, if_pos c4]
    exact h
  rw [if_neg c4, if_neg c4]
  obtain ⟨GA, GW, h1, h2, h3, h4, h5⟩ := h
  show RLq n FX nw (upd (upd (upd (upd ov 0 a1) 1 a2) 2 a3) 3 a4) tf FV FJ go gq gw ga (upd (upd (upd (upd mi 0 a1) 1 a2) 2 a3) 3 a4) ma
  obtain ⟨m, hm⟩ : ∃ y, y = upd (upd (upd (upd mi 0 a1) 1 a2) 2 a3) 3 a4 := ⟨_, rfl⟩
  have km : ∀ k, 3 < k → m k = mi k := fun k hk => by
    rw [hm, upd_b (by omega), upd_b (by omega), upd_b (by omega), upd_b (by omega)]
  have e0 : m 0 = a1 := by rw [hm]; simp (decide := true) only [upd_a, upd_b, ne_eq, not_false_eq_true]
  have e1 : m 1 = a2 := by rw [hm]; simp (decide := true) only [upd_a, upd_b, ne_eq, not_false_eq_true]
  have e2 : m 2 = a3 := by rw [hm]; simp (decide := true) only [upd_a, upd_b, ne_eq, not_false_eq_true]
  have e3 : m 3 = a4 := by rw [hm]; simp (decide := true) only [upd_a, upd_b, ne_eq, not_false_eq_true]
  rw [← hm]
  have e4 : m 4 = mi 4 := km 4 (by decide)
  refine ⟨GA, GW, by rw [e4]; exact h1, h2, h3, ?_, WQ_keep h5 (km 10 (by decide)) (km 11 (by decide)) (fun _ _ => rfl) (fun _ => Int.le_refl _)⟩
  rw [e4]
  obtain ⟨⟨b1, b2, b3⟩, b4, ⟨⟨r1, r2, r3, r4⟩, r5, r6⟩, b6⟩ := h4
  refine ⟨⟨b1, by rw [km 32 (by decide)]; exact b2, b3⟩, fun j hj => ?_, ⟨⟨?_, ?_, r3, ?_⟩, r5, r6⟩, AQ_keep b6 (km 17 (by decide)) (km 18 (by decide)) (fun _ _ => rfl) (fun _ => Int.le_refl _)⟩
  · obtain ⟨q1, q2, q3⟩ := b4 j hj
    exact ⟨q1, FQ_same q2 e4 (fun _ _ _ => rfl) (fun _ _ => rfl) (fun _ _ => rfl), q3⟩
  · rw [e0, e1, e2, e3]
    simp (decide := true) only [upd_a, upd_b, ne_eq, not_false_eq_true, and_self]
  · rw [km 30 (by decide), km 26 (by decide), km 27 (by decide), km 28 (by decide), km 29 (by decide)]
    simp (decide := true) only [upd_a, upd_b, ne_eq, not_false_eq_true]
    exact r2
  · unfold LQ at r4 ⊢
    rw [km 6 (by decide), km 5 (by decide)]
    exact r4

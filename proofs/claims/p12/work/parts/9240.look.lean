/-- a probe: its numbers, behind what puts left -/
def v_prb (mi u : Nat → Int32) : Nat → Int32 := upd (v_doubles mi (upd u 46 (if u 45 + 1 ≤ u 46 then u 46 else u 45 + 1))).1 61 (mi 4 + (v_doubles mi (upd u 46 (if u 45 + 1 ≤ u 46 then u 46 else u 45 + 1))).1 49)
theorem due_A {F : Nat} (hF : F < 4) {mi m : Nat → Int32} {ma a : Nat → Nat → Int32} {r : Int32} (hle : ma 45 F ≤ ma 44 F) (hx : x_due (nI F) mi ma = some (m, a, r)) : (if 0 < ma 60 F then m = mi ∧ a = setc ma F (upd (upd (col ma F) 69 (-1)) 61 (-1)) else if ma 45 F < ma 43 F then ∃ a1 r1, x_puts (nI F) (ma 45 F) 1 mi (setc ma F (upd (upd (upd (col ma F) 69 (-1)) 61 (-1)) 62 (ma 62 F + 1))) = (m, a1, r1) ∧ a = setc a1 F (v_prb m (col a1 F)) else m = mi ∧ a = setc ma F (upd (upd (col ma F) 69 (-1)) 61 (-1))) := by
  unfold x_due at hx
  have hx := (ax_some hx).2
  have hF2 : (nI F).toNatClampNeg = F := nI_clamp (by omega)
  obtain ⟨u, hu⟩ : ∃ u, u = col ma F := ⟨_, rfl⟩
  have hm : ma = setc ma F u := by rw [hu, setc_col]
  have e45 : ma 45 F = u 45 := by rw [hu]; rfl
  have e44 : ma 44 F = u 44 := by rw [hu]; rfl
  have e43 : ma 43 F = u 43 := by rw [hu]; rfl
  have e60 : ma 60 F = u 60 := by rw [hu]; rfl
  have e62 : ma 62 F = u 62 := by rw [hu]; rfl
  rw [e45, e44] at hle
  rw [e45, e43, e60, e62, ← hu]
  rw [hm] at hx
  have hLo := fun (w : Nat → Int32) => x_loses_v (nI F) F hF2 mi ma w
  simp only [bd_eq, hF2, up_setc, setc_at] at hx
  simp (decide := true) only [upd_a, upd_b, ne_eq, not_false_eq_true] at hx
  rw [if_pos hle] at hx
  by_cases c1 : 0 < u 60
  · rw [if_pos c1] at hx ⊢
    have hx := Option.some.inj hx
    exact ⟨(congrArg Prod.fst hx).symm, (congrArg (fun x => x.2.1) hx).symm⟩
  · rw [if_neg c1] at hx ⊢
    by_cases c2 : u 45 < u 43
    · rw [if_pos c2] at hx ⊢
      obtain ⟨t, ht⟩ : ∃ t, t = x_puts (nI F) (u 45) 1 mi (setc ma F (upd (upd (upd u 69 (-1)) 61 (-1)) 62 (u 62 + 1))) := ⟨_, rfl⟩
      rw [← ht] at hx ⊢
      obtain ⟨m1, a1, r1⟩ := t
      rw [bc_eq] at hx
      obtain ⟨w, hw⟩ : ∃ w, w = col a1 F := ⟨_, rfl⟩
      have hm1 : a1 = setc a1 F w := by rw [hw, setc_col]
      rw [hm1] at hx
      have hD := fun (w : Nat → Int32) => x_doubles_v (nI F) F hF2 m1 a1 w
      simp only [up_setc, setc_at, hD, bc_lf] at hx
      have key : m1 = m ∧ a = setc a1 F (v_prb m1 w) := by
        unfold v_prb
        by_cases c3 : w 45 + 1 ≤ w 46
        · rw [if_pos c3] at hx ⊢
          have hx := Option.some.inj hx
          exact ⟨congrArg Prod.fst hx, (congrArg (fun x => x.2.1) hx).symm⟩
        · rw [if_neg c3] at hx ⊢
          have hx := Option.some.inj hx
          exact ⟨congrArg Prod.fst hx, (congrArg (fun x => x.2.1) hx).symm⟩
      refine ⟨a1, r1, by rw [key.1], ?_⟩
      rw [key.2, key.1, hw]
    · rw [if_neg c2] at hx ⊢
      have hx := Option.some.inj hx
      exact ⟨(congrArg Prod.fst hx).symm, (congrArg (fun x => x.2.1) hx).symm⟩
theorem xc_probe_eq {ov tf sv tv bv cv : Nat → Int32} {go : Option S4} {gq : List S3} {n0 k0 g0 n1 : Int32} {f g : Nat → Int64} : xc_probe ov go gq tf n0 k0 g0 sv tv bv cv f g n1 = (upd (upd sv 16 (sv 16 + 1)) 5 (if sv 4 + 1 ≤ sv 5 then sv 5 else sv 4 + 1), upd (xc_tdouble tv) 3 (n1 + xc_tdouble tv 0), bv, cv, f, g, xc_launch ov go gq tf n0 (sv 4) 1 n1) := by
  unfold xc_probe xc_tset
  simp only [bd_eq]
  simp (decide := true) only [upd_b, ne_eq, not_false_eq_true, mx_eq]
theorem due_pair {F : Nat} (hF : F < 4) {k0 g0 : Int32} {T : Int} {sv tv bv cv : Nat → Int32} {f g : Nat → Int64} {mi m : Nat → Int32} {ma a : Nat → Nat → Int32} {r : Int32} {ov tf : Nat → Int32} {go : Option S4} {gq : List S3} (h : FQ F T k0 g0 sv tv bv cv f g mi ma) (hR : RR ov tf go gq mi ma) (ht : ma 61 F = mi 4) (hx : x_due (nI F) mi ma = some (m, a, r)) : ∃ sv2 tv2 bv2 cv2 f2 g2 ov2 tf2 go2 gq2, xc_lookAt ov go gq tf (nI F) k0 g0 sv tv bv cv f g (mi 4) = (sv2, tv2, bv2, cv2, f2, g2, ov2, tf2, go2, gq2) ∧ FQ F T k0 g0 sv2 tv2 bv2 cv2 f2 g2 m a ∧ RR ov2 tf2 go2 gq2 m a ∧ SFR F mi ma m a := by
  have hP := (ax_some (by unfold x_due at hx; exact hx)).1
  have hMB := hP.1
  have hS := h.1
  have hI := h.2.1
  have hB := h.2.2
  have e3 : sv 3 = ma 44 F := SQ_s3 hS
  have e4 : sv 4 = ma 45 F := SQ_s4 hS
  have e5 : sv 5 = ma 46 F := SQ_s5 hS
  have e9 : sv 9 = ma 60 F := SQ_s9 hS
  have eg : g0 = ma 43 F := SQ_g hS
  have et : tv 3 = mi 4 := (show tv 3 = ma 61 F from SQ_t3 hS).trans ht
  have hw := MB_w hMB F hF
  have hun := MB_una hMB F hF
  have q : (ma 44 F).toInt ≤ (ma 45 F).toInt ∧ (ma 45 F).toInt ≤ (ma 46 F).toInt ∧ (ma 55 F).toInt ≤ (ma 46 F).toInt := hI.2.2.2.2.2.2.1
  unfold xc_lookAt
  simp only [bd_eq]
  rw [if_pos et, e3, e4, e9]
  by_cases c1 : ma 45 F ≤ ma 44 F
  · rw [if_pos c1]
    have c1i := Int32.le_iff_toInt_le.mp c1
    have hA := due_A hF c1 hx
    have etv : upd (xc_tput tv) 4 (-1) = upd (upd tv 4 (-1)) 3 (-1) := by
      rw [show xc_tput tv = upd tv 3 (-1) from rfl, upd_comm (show (3 : Nat) ≠ 4 by decide)]
    have h1 := SQ_ut3 (SQ_ut4 hS (rfl : (-1 : Int32) = -1)) (rfl : (-1 : Int32) = -1)
    have hU1 : UF [69, 61] (col ma F) (upd (upd (col ma F) 69 (-1)) 61 (-1)) := UF_upd (UF_upd UF_refl (by decide)) (by decide)
    have plain : m = mi ∧ a = setc ma F (upd (upd (col ma F) 69 (-1)) 61 (-1)) → ∃ sv2 tv2 bv2 cv2 f2 g2 ov2 tf2 go2 gq2, (sv, upd (xc_tput tv) 4 (-1), bv, cv, f, g, ov, tf, go, gq) = (sv2, tv2, bv2, cv2, f2, g2, ov2, tf2, go2, gq2) ∧ FQ F T k0 g0 sv2 tv2 bv2 cv2 f2 g2 m a ∧ RR ov2 tf2 go2 gq2 m a ∧ SFR F mi ma m a := by
      rintro ⟨hm, ha⟩
      have hk : ∀ k, k ≠ 69 → k ≠ 61 → a k = ma k := fun k e1 e2 => by
        rw [ha]
        exact setc_keep hU1 (by simp only [List.mem_cons, List.not_mem_nil, or_false]; exact fun w => by rcases w with w | w; exact e1 w; exact e2 w)
      refine ⟨_, _, _, _, _, _, _, _, _, _, rfl, ⟨?_, ?_, fun h3 => ?_⟩, ?_, ?_⟩
      · rw [etv, ha, col_setc]
        exact h1
      · rw [hm, ha, col_setc]
        exact SI_61 (SI_69 hI)
      · exact BQ_same (hB h3) (fun k hk2 => by rw [hk k (fun e => by rw [e] at hk2; revert hk2; decide) (fun e => by rw [e] at hk2; revert hk2; decide)]) (hk 71 (by decide) (by decide)) (hk 72 (by decide) (by decide))
      · rw [hm]
        exact RR_keep hR (fun k _ => rfl) (fun k hk2 => hk k (fun e => by rw [e] at hk2; revert hk2; decide) (fun e => by rw [e] at hk2; revert hk2; decide)) (fun i => by rw [hk 46 (by decide) (by decide)]; exact Int.le_refl _)
      · rw [hm, ha]
        exact SFR_c hU1 (by decide)
    by_cases c2 : 0 < ma 60 F
    · rw [if_pos c2] at hA
      have n0 : ¬ ma 60 F = 0 := fun w => by rw [w] at c2; revert c2; decide
      rw [if_neg n0]
      exact plain hA
    · rw [if_neg c2] at hA
      have n0 : ma 60 F = 0 := by
        apply Int32.toInt_inj.mp
        have : ¬ (0 : Int32).toInt < (ma 60 F).toInt := fun w => c2 (Int32.lt_iff_toInt_lt.mpr w)
        rw [show (0 : Int32).toInt = 0 by decide] at this ⊢
        omega
      rw [if_pos n0]
      by_cases c3 : ma 45 F < ma 43 F
      · rw [if_pos c3] at hA
        rw [if_neg (show ¬ g0 ≤ ma 45 F by rw [eg]; exact Int32.not_le.mpr c3)]
        obtain ⟨a1, r1, hp, ha⟩ := hA
        have hU2 : UF [69, 61, 62] (col ma F) (upd (upd (upd (col ma F) 69 (-1)) 61 (-1)) 62 (ma 62 F + 1)) := UF_upd (UF_upd (UF_upd UF_refl (by decide)) (by decide)) (by decide)
        obtain ⟨b, hb⟩ : ∃ b, b = setc ma F (upd (upd (upd (col ma F) 69 (-1)) 61 (-1)) 62 (ma 62 F + 1)) := ⟨_, rfl⟩
        have hkb : ∀ k, k ∉ ([69, 61, 62] : List Nat) → b k = ma k := fun k hk => by rw [hb]; exact setc_keep hU2 hk
        have hRb : RR ov tf go gq mi b := RR_keep hR (fun k _ => rfl) (fun k hk2 => hkb k (fun e => by revert hk2 e; simp only [List.mem_cons, List.not_mem_nil, or_false]; omega)) (fun i => by rw [hkb 46 (by decide)]; exact Int.le_refl _)
        obtain ⟨ov2, tf2, go2, gq2, m1, a1', x1, x2, x3, x4⟩ := RR_launch hF (s := ma 45 F) (p := 1) hRb (MB_told hMB).1 (MB_told hMB).2 (MB_room hMB).1 (MB_room hMB).2 (Or.inr rfl)
        rw [← hb, x2] at hp
        have q1 : m1 = m := congrArg Prod.fst hp
        have q2 : a1' = a1 := congrArg (fun x => x.2.1) hp
        subst q1 q2
        have hAG := AG_PK (F := F) x3
        have m4 : m1 4 = mi 4 := x3.1 4 (by decide)
        have hcb : col b F = upd (upd (upd (col ma F) 69 (-1)) 61 (-1)) 62 (ma 62 F + 1) := by rw [hb, col_setc]
        rw [xc_probe_eq, e4, x1]
        have w45 : col a1' F 45 = ma 45 F := (hAG 45 (by decide) (by decide)).trans (by rw [hcb]; exact hU2 45 (by decide))
        have w46 : col a1' F 46 = ma 46 F := (hAG 46 (by decide) (by decide)).trans (by rw [hcb]; exact hU2 46 (by decide))
        have h2 := SQ_us16 h1 (show sv 16 + 1 = ma 62 F + 1 by rw [show sv 16 = ma 62 F from SQ_s16 hS])
        have h3 := SQ_congr h2 (u2 := col a1' F) (fun k k1 k2 => by rw [hAG k k1 k2, hcb])
        obtain ⟨H, hH⟩ : ∃ H, H = (if ma 45 F + 1 ≤ ma 46 F then ma 46 F else ma 45 F + 1) := ⟨_, rfl⟩
        have h4 := SQ_double (mi := m1) (SQ_us5 h3 (rfl : H = H))
        have h5 := SQ_ut3 h4 (show mi 4 + xc_tdouble (upd (upd tv 4 (-1)) 3 (-1)) 0 = m1 4 + (v_doubles m1 (upd (col a1' F) 46 H)).1 49 by rw [m4, SQ_t0 h4])
        have hvp : v_prb m1 (col a1' F) = upd (v_doubles m1 (upd (col a1' F) 46 H)).1 61 (m1 4 + (v_doubles m1 (upd (col a1' F) 46 H)).1 49) := by
          unfold v_prb
          rw [w45, w46, ← hH]
        have hnx : (ma 45 F).toInt = (ma 44 F).toInt := by omega
        have h451 := ti_add1 (s := ma 45 F) (by omega)
        have Hr : (ma 46 F).toInt ≤ H.toInt ∧ (ma 45 F).toInt < H.toInt := by
          rw [hH]
          by_cases c4 : ma 45 F + 1 ≤ ma 46 F
          · have := Int32.le_iff_toInt_le.mp c4
            rw [if_pos c4]
            omega
          · have := Int32.lt_iff_toInt_lt.mp (Int32.not_le.mp c4)
            rw [if_neg c4]
            omega
        have hUp : UF [46, 49, 61] (col a1' F) (v_prb m1 (col a1' F)) := by
          rw [hvp]
          exact UF_upd (UF_trans (UF_upd UF_refl (by decide)) (UF_mono v_doubles_UF (by decide))) (by decide)
        have p46 : v_prb m1 (col a1' F) 46 = H := by
          rw [hvp, upd_b (by decide), v_doubles_UF 46 (by decide), upd_a]
        have p49 : 0 ≤ (v_prb m1 (col a1' F) 49).toInt ∧ (v_prb m1 (col a1' F) 49).toInt ≤ 60000 := by
          have e49 : col a1' F 49 = ma 49 F := (hAG 49 (by decide) (by decide)).trans (by rw [hcb]; exact hU2 49 (by decide))
          rw [hvp, upd_b (by decide), v_doubles_eq]
          simp (decide := true) only [upd_a, upd_b, ne_eq, not_false_eq_true]
          rw [e49]
          exact dbl_rg hI.2.2.2.2.2.1.1 hI.2.2.2.2.2.1.2
        have pk : ∀ k, 42 ≤ k → k ≤ 70 → k ∉ ([46, 49, 61, 69, 62] : List Nat) → v_prb m1 (col a1' F) k = ma k F := fun k k1 k2 hk => by
          rw [hUp k (fun w => hk (by revert w; exact sub_of (by decide) k)), hAG k k1 k2, hcb]
          exact hU2 k (fun w => hk (by revert w; exact sub_of (by decide) k))
        have p69 : v_prb m1 (col a1' F) 69 = -1 := by
          rw [hUp 69 (by decide), hAG 69 (by decide) (by decide), hcb, upd_b (by decide), upd_b (by decide), upd_a]
        have ka : ∀ k, k ∉ ([46, 49, 61] : List Nat) → setc a1' F (v_prb m1 (col a1' F)) k = a1' k := fun k hk => setc_keep hUp hk
        have r54 : ma 42 F = 3 → ma 54 F = 0 := by
          intro k3
          by_cases w : ma 54 F = 0
          · exact w
          · exfalso
            have z := (hI.2.2.2.2.2.2.2 k3).2 w
            have z1 : (ma 45 F).toInt = (ma 46 F).toInt := congrArg Int32.toInt z.1
            have z2 : (ma 44 F).toInt < (ma 55 F).toInt := z.2.2.1
            omega
        refine ⟨_, _, _, _, _, _, ov2, tf2, go2, gq2, rfl, ⟨?_, ?_, fun hk => ?_⟩, ?_, ?_⟩
        · rw [ha, col_setc, hvp, etv]
          rw [show sv 5 = ma 46 F from e5, ← hH]
          exact h5
        · rw [ha, col_setc]
          obtain ⟨i1, i2, i3, i4, i5, i6, i7, i8⟩ := hI
          unfold SI
          rw [p46, p69, m4, pk 50 (by decide) (by decide) (by decide), pk 52 (by decide) (by decide) (by decide), pk 70 (by decide) (by decide) (by decide), pk 67 (by decide) (by decide) (by decide), pk 64 (by decide) (by decide) (by decide), pk 44 (by decide) (by decide) (by decide), pk 45 (by decide) (by decide) (by decide), pk 55 (by decide) (by decide) (by decide), pk 42 (by decide) (by decide) (by decide), pk 54 (by decide) (by decide) (by decide), pk 56 (by decide) (by decide) (by decide)]
          refine ⟨i1, i2, Or.inl rfl, i4, i5, p49, ⟨q.1, by omega, by omega⟩, fun k3 => ⟨?_, fun w => absurd (r54 k3) w⟩⟩
          obtain ⟨j1, j2⟩ := i8 k3
          rcases j1 with w | w | w
          · refine Or.inr (Or.inr ⟨r54 k3, Int32.toInt_inj.mp hnx, ?_⟩)
            have w' : (ma 45 F).toInt = (ma 46 F).toInt := congrArg Int32.toInt w
            have nn : ¬ ma 45 F + 1 ≤ ma 46 F := fun z => by
              have := Int32.le_iff_toInt_le.mp z
              omega
            rw [hH, if_neg nn, h451]
          · have w1 : ma 54 F = 0 := w.1
            have w2 : ma 55 F = ma 46 F := w.2.1
            have w3 : (ma 44 F).toInt < (ma 55 F).toInt := w.2.2
            have w4 : (ma 55 F).toInt = (ma 46 F).toInt := congrArg Int32.toInt w2
            have pp : ma 45 F + 1 ≤ ma 46 F := Int32.le_iff_toInt_le.mpr (by omega)
            refine Or.inr (Or.inl ⟨w1, ?_, w3⟩)
            rw [hH, if_pos pp]
            exact w2
          · have w1 : ma 54 F = 0 := w.1
            have w2 : ma 45 F = ma 44 F := w.2.1
            have w3 : (ma 46 F).toInt = (ma 45 F).toInt + 1 := w.2.2
            have pp : ma 45 F + 1 ≤ ma 46 F := Int32.le_iff_toInt_le.mpr (by omega)
            refine Or.inr (Or.inr ⟨w1, w2, ?_⟩)
            rw [hH, if_pos pp]
            exact w3
        · have k3 : ma 42 F = 3 := by rw [← hk]; exact (SQ_k hS).symm
          have e71 : a 71 = ma 71 := by rw [ha, ka 71 (by decide), x3.2 71 (by decide), hkb 71 (by decide)]
          have ack : ∀ k, 42 ≤ k → k ≤ 70 → k ∉ ([46, 49, 61, 69, 62] : List Nat) → a k F = ma k F := fun k k1 k2 hk => by rw [ha, setc_at]; exact pk k k1 k2 hk
          exact BQ_keep (hB hk) (ack 44 (by decide) (by decide) (by decide)) (fun i _ => by rw [e71]) (by rw [ha, setc_at, p46]; exact Hr.1) (fun w => absurd ((ack 54 (by decide) (by decide) (by decide)).trans (r54 k3)) w)
        · rw [ha]
          refine x4 _ (fun k hk => ka k (fun w => by revert hk w; simp only [List.mem_cons, List.not_mem_nil, or_false]; omega)) (fun i => ?_) (by rw [setc_at, p46]; exact Hr.2)
          rw [hkb 46 (by decide)]
          by_cases e : i = F
          · rw [e, setc_at, p46]
            exact Hr.1
          · rw [setc_ne e, x3.2 46 (by decide), hkb 46 (by decide)]
            exact Int.le_refl _
        · rw [ha]
          refine SFR_trans (SFR_trans ?_ (SFR_PK x3)) (SFR_setc (fun k hk => hUp k (by simp only [List.mem_cons, List.not_mem_nil, or_false]; omega)) (by rw [p46, show a1' 46 F = ma 46 F from w46]; exact Hr.1))
          rw [hb]
          exact SFR_c hU2 (by decide)
      · rw [if_neg c3] at hA
        rw [if_pos (show g0 ≤ ma 45 F by rw [eg]; exact Int32.not_lt.mp c3)]
        exact plain hA
  · rw [if_neg c1]
    obtain ⟨sv2, tv2, bv2, cv2, f2, y1, y2, y3, y4⟩ := due_pairB hF h hR hun.2 hun.1 c1 hx
    rw [y1]
    exact ⟨_, _, _, _, _, _, _, _, _, _, rfl, y2, y3, y4⟩

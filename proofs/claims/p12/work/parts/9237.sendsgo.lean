/-- nothing may be sent, and a closed window is watched -/
def QU (F : Nat) (a : Nat → Nat → Int32) : Prop := nxR F a = -1 ∧ (finC F a → ¬ a 61 F = -1)
theorem NB_of {F : Nat} (hF : F < 4) {T : Int} {t : Int32} {mi : Nat → Int32} {a : Nat → Nat → Int32} (h : MB mi a) (hI : SI T t (col a F)) : NB F a := by
  have u := MB_una h F hF
  have l := MB_le2h h F hF
  have q : (a 44 F).toInt ≤ (a 45 F).toInt ∧ (a 45 F).toInt ≤ (a 46 F).toInt ∧ (a 55 F).toInt ≤ (a 46 F).toInt := hI.2.2.2.2.2.2.1
  exact ⟨u.1, u.2, by omega, l⟩
theorem ou_congr {F : Nat} {a b : Nat → Nat → Int32} (hc : ∀ k, k ∈ ([42, 44, 45, 46, 54, 56] : List Nat) → b k F = a k F) (h71 : ∀ i, i < 200 → b 71 (200 * F + i) = a 71 (200 * F + i)) (h72 : ∀ i, i < 512 → b 72 (512 * F + i) = a 72 (512 * F + i)) (hn : NB F a) : ouv F b = ouv F a ∧ oul F b = oul F a := by
  have e44 := hc 44 (by decide)
  have e46 := hc 46 (by decide)
  have hL : ouL F b = ouL F a := by unfold ouL; rw [e44, e46]
  have hl : ouL F a ≤ 200 := by have := hn.2.2.2; unfold ouL; omega
  unfold ouv oul
  rw [hc 42 (by decide), hc 54 (by decide), hc 56 (by decide), hc 45 (by decide), e44, hL]
  rw [psum_congr (B := fun i => a 71 (200 * F + i)) (R := fun i => a 72 (512 * F + ((a 44 F).toInt.toNat + i) % 512)) (fun i hi => h71 i (by omega)) (fun i hi => h72 _ (by omega)) (Nat.le_refl _)]
  rw [lst_congr (B := fun i => a 71 (200 * F + i)) (R := fun i => a 72 (512 * F + ((a 44 F).toInt.toNat + i) % 512)) (fun i hi => h71 i (by omega)) (fun i hi => h72 _ (by omega)) (Nat.le_refl _)]
  exact ⟨rfl, rfl⟩
theorem nxR_congr {F : Nat} {a b : Nat → Nat → Int32} (hc : ∀ k, k ∈ ([42, 43, 44, 45, 46, 47, 54, 56, 60] : List Nat) → b k F = a k F) (h71 : ∀ i, i < 200 → b 71 (200 * F + i) = a 71 (200 * F + i)) (h72 : ∀ i, i < 512 → b 72 (512 * F + i) = a 72 (512 * F + i)) (hn : NB F a) : nxR F b = nxR F a := by
  obtain ⟨e1, e2⟩ := ou_congr (F := F) (a := a) (b := b) (fun k hk => hc k (by revert hk; exact sub_of (by decide) k)) h71 h72 hn
  unfold nxR
  rw [e1, e2, hc 47 (by decide), hc 43 (by decide), hc 45 (by decide), hc 44 (by decide), hc 60 (by decide)]
theorem oum_k {F k : Nat} {mi : Nat → Int32} {a : Nat → Nat → Int32} (h : k ≠ 73) : oum F mi a k = mi k := by
  unfold oum
  by_cases c : a 42 F = 3 ∧ ¬ a 54 F = 0
  · rw [if_pos c]
    exact upd_b h
  · rw [if_neg c]
theorem SFR_oum {F : Nat} {mi : Nat → Int32} {a : Nat → Nat → Int32} : SFR F mi a (oum F mi a) a := ⟨fun k hk => oum_k (fun e => hk (by rw [e]; decide)), fun _ _ _ _ => rfl, Int.le_refl _⟩
theorem RR_oum {F : Nat} {ov tf : Nat → Int32} {go : Option S4} {gq : List S3} {mi : Nat → Int32} {a : Nat → Nat → Int32} (h : RR ov tf go gq mi a) : RR ov tf go gq (oum F mi a) a := RR_keep h (fun k hk => oum_k (fun e => by rw [e] at hk; revert hk; decide)) (fun k _ => rfl) (fun i => Int.le_refl _)
theorem nxR_next {F : Nat} {a : Nat → Nat → Int32} (h : ¬ nxR F a = -1) (ho : oul F a = -1) : nxR F a = a 45 F ∧ a 45 F < a 43 F := by
  unfold nxR at h ⊢
  by_cases c1 : a 47 F / 1024 ≤ ouv F a
  · rw [if_pos c1] at h
    exact absurd rfl h
  · rw [if_neg c1, if_neg (fun w => w ho)] at h ⊢
    by_cases c2 : a 43 F ≤ a 45 F
    · rw [if_pos c2] at h
      exact absurd rfl h
    · rw [if_neg c2] at h ⊢
      by_cases c3 : a 44 F + a 60 F ≤ a 45 F
      · rw [if_pos c3] at h
        exact absurd rfl h
      · rw [if_neg c3]
        exact ⟨rfl, Int32.not_le.mp c2⟩
theorem nxR_lost {F : Nat} {a : Nat → Nat → Int32} (h : ¬ nxR F a = -1) (ho : ¬ oul F a = -1) : nxR F a = oul F a := by
  unfold nxR at h ⊢
  by_cases c1 : a 47 F / 1024 ≤ ouv F a
  · rw [if_pos c1] at h
    exact absurd rfl h
  · rw [if_neg c1, if_pos ho]
/-- the class's end of sending -/
def cfin (k9 s4 s3 g0 : Int32) (tv : Nat → Int32) (t : Int32) : Nat → Int32 := if k9 = 0 ∧ s4 = s3 ∧ ¬ g0 ≤ s4 then xc_tsetIf tv t else tv
theorem cfin_eq {A : Type} {k9 s4 s3 g0 t : Int32} {tv : Nat → Int32} (K : (Nat → Int32) → A) : (if k9 = 0 then (if s4 = s3 then (if g0 ≤ s4 then K tv else K (xc_tsetIf tv t)) else K tv) else K tv) = K (cfin k9 s4 s3 g0 tv t) := by
  unfold cfin
  by_cases c1 : k9 = 0
  · rw [if_pos c1]
    by_cases c2 : s4 = s3
    · rw [if_pos c2]
      by_cases c3 : g0 ≤ s4
      · rw [if_pos c3, if_neg (show ¬ (k9 = 0 ∧ s4 = s3 ∧ ¬ g0 ≤ s4) from fun w => w.2.2 c3)]
      · rw [if_neg c3, if_pos (show k9 = 0 ∧ s4 = s3 ∧ ¬ g0 ≤ s4 from ⟨c1, c2, c3⟩)]
    · rw [if_neg c2, if_neg (show ¬ (k9 = 0 ∧ s4 = s3 ∧ ¬ g0 ≤ s4) from fun w => c2 w.2.1)]
  · rw [if_neg c1, if_neg (show ¬ (k9 = 0 ∧ s4 = s3 ∧ ¬ g0 ≤ s4) from fun w => c1 w.1)]
theorem SI_tim {T : Int} {t tt : Int32} {u : Nat → Int32} (h : SI T t u) : SI T t (v_tim tt u) := by
  have hU := v_tim_UF (t := tt) (u := u)
  unfold SI
  rw [hU 50 (by decide), hU 52 (by decide), hU 69 (by decide), hU 70 (by decide), hU 67 (by decide), hU 64 (by decide), hU 49 (by decide), hU 44 (by decide), hU 45 (by decide), hU 46 (by decide), hU 55 (by decide), hU 42 (by decide), hU 54 (by decide), hU 56 (by decide)]
  exact h
theorem tim_set {T : Int} {t : Int32} {u : Nat → Int32} (h : SI T t u) (t1 : 0 ≤ t.toInt) (t2 : t.toInt ≤ 100000000) : ¬ v_tim t u 61 = -1 := by
  unfold v_tim
  by_cases c : u 61 = -1
  · rw [if_pos c, upd_a]
    intro w
    have := congrArg Int32.toInt w
    have r := h.2.2.2.2.2.1
    rw [ti_add (x := t + u 49) rfl (by omega) (by omega), show (-1 : Int32).toInt = -1 by decide] at this
    omega
  · rw [if_neg c]
    exact c
theorem sends_go {F : Nat} (hF : F < 4) {k0 g0 : Int32} {T : Int} {bv cv : Nat → Int32} {f : Nat → Int64} : ∀ (fu c fc : Nat) (mi : Nat → Int32) (ma : Nat → Nat → Int32) (ov tf : Nat → Int32) (go : Option S4) (gq : List S3) (sv tv : Nat → Int32) (g : Nat → Int64) (m : Nat → Int32) (a : Nat → Nat → Int32) (r : Int32), FQ F T k0 g0 sv tv bv cv f g mi ma → RR ov tf go gq mi ma → T = (mi 4).toInt + 1 → x_sends_0 (nI F) fu mi ma = some (m, a, r) → c + fu ≤ 100000 → fu ≤ fc → ∃ sv2 tv2 g2 ov2 tf2 go2 gq2, xc_sendMay_2 (nI F) k0 g0 (mi 4) fc ov tf sv tv bv f g cv go gq (nI c) = (sv2, tv2, bv, cv, f, g2, ov2, tf2, go2, gq2) ∧ FQ F T k0 g0 sv2 tv2 bv cv f g2 m a ∧ RR ov2 tf2 go2 gq2 m a ∧ SFR F mi ma m a ∧ QU F a
  | 0, c, fc, mi, ma, ov, tf, go, gq, sv, tv, g, m, a, r, h, hR, hT, hx, hc, hf => by
    rw [x_sends_0] at hx
    cases hx
  | fu + 1, c, 0, mi, ma, ov, tf, go, gq, sv, tv, g, m, a, r, h, hR, hT, hx, hc, hf => by omega
  | fu + 1, c, fc + 1, mi, ma, ov, tf, go, gq, sv, tv, g, m, a, r, h, hR, hT, hx, hc, hf => by
    have hP := (ax_some (by rw [x_sends_0] at hx; exact hx)).1
    have hMB := hP.1
    have hS := h.1
    have hI := h.2.1
    have hn := NB_of hF hMB hI
    have h45 := (MB_nxt hMB F hF).1
    have b0 := (MB_tick hMB).1
    have b01 := (MB_tick hMB).2
    have e3 : sv 3 = ma 44 F := SQ_s3 hS
    have e4 : sv 4 = ma 45 F := SQ_s4 hS
    have e9 : sv 9 = ma 60 F := SQ_s9 hS
    have eg : g0 = ma 43 F := SQ_g hS
    rw [sends_step hF hn h45] at hx
    have hx := (ax_some hx).2
    have hc1 : ¬ (100000 : Int32) ≤ nI c := fun w => by
      have := Int32.le_iff_toInt_le.mp w
      rw [nI_toInt (by omega), show (100000 : Int32).toInt = 100000 by decide] at this
      omega
    rw [xc_sendMay_2, if_neg hc1]
    simp only [bd_eq, xc_next_eq h hn]
    have om4 : oum F mi ma 4 = mi 4 := oum_k (by decide)
    by_cases c1 : nxR F ma = -1
    · rw [if_pos c1] at hx
      rw [if_pos c1, cfin_eq (fun tv => (sv, tv, bv, cv, f, g, ov, tf, go, gq))]
      have hx := Option.some.inj hx
      unfold finR at hx
      by_cases c2 : finC F ma
      · rw [if_pos c2] at hx
        have hm : oum F mi ma = m := congrArg Prod.fst hx
        have ha : setc ma F (v_tim (oum F mi ma 4) (col ma F)) = a := congrArg (fun x => x.2.1) hx
        rw [om4] at ha
        have ht : cfin (sv 9) (sv 4) (sv 3) g0 tv (mi 4) = xc_tsetIf tv (mi 4) := by
          unfold cfin
          rw [e3, e4, e9, eg, if_pos c2]
        have hU := v_tim_UF (t := mi 4) (u := col ma F)
        have hk : ∀ k, k ≠ 61 → a k = ma k := fun k hk => by
          rw [← ha]
          exact setc_keep hU (by simp only [List.mem_singleton]; exact hk)
        have hcol : col a F = v_tim (mi 4) (col ma F) := by rw [← ha, col_setc]
        rw [ht]
        refine ⟨_, _, _, _, _, _, _, rfl, ⟨?_, ?_, fun h3 => ?_⟩, ?_, ?_, ?_, fun _ => ?_⟩
        · rw [hcol]
          exact SQ_tim hS
        · rw [hcol, ← hm, om4]
          exact SI_tim hI
        · have hB := h.2.2 h3
          exact BQ_keep hB (by rw [hk 44 (by decide)]) (fun i _ => by rw [hk 71 (by decide)]) (by rw [hk 46 (by decide)]; exact Int.le_refl _) (fun hr => by
            rw [hk 54 (by decide)] at hr
            have q := hB.2.2.2.2 hr
            refine ⟨by rw [hk 56 (by decide)]; exact q.1, ?_⟩
            have q2 := q.2
            unfold RSq at q2 ⊢
            rw [hk 44 (by decide), hk 46 (by decide), hk 72 (by decide), hk 56 (by decide)]
            exact q2)
        · rw [← hm]
          exact RR_keep (RR_oum hR) (fun k _ => rfl) (fun k hk2 => hk k (fun e => by rw [e] at hk2; revert hk2; decide)) (fun i => by rw [hk 46 (by decide)]; exact Int.le_refl _)
        · rw [← hm, ← ha]
          exact SFR_trans SFR_oum (SFR_c hU (by decide))
        · rw [nxR_congr (a := ma) (fun k hk2 => by rw [hk k (fun e => by rw [e] at hk2; revert hk2; decide)]) (fun i _ => by rw [hk 71 (by decide)]) (fun i _ => by rw [hk 72 (by decide)]) hn]
          exact c1
        · have := tim_set hI b0 b01
          rw [← hcol] at this
          exact this
      · rw [if_neg c2] at hx
        have hm : oum F mi ma = m := congrArg Prod.fst hx
        have ha : ma = a := congrArg (fun x => x.2.1) hx
        have ht : cfin (sv 9) (sv 4) (sv 3) g0 tv (mi 4) = tv := by
          unfold cfin
          rw [e3, e4, e9, eg, if_neg c2]
        rw [ht, ← hm, ← ha]
        exact ⟨_, _, _, _, _, _, _, rfl, FQ_mi h om4, RR_oum hR, SFR_oum, c1, fun w => absurd w c2⟩
    · rw [if_neg c1] at hx
      rw [if_neg c1]
      have r1 := (MB_told hMB).1
      have r2 := (MB_told hMB).2
      have r3 := (MB_room hMB).1
      have r4 := (MB_room hMB).2
      by_cases c2 : oul F ma = -1
      · rw [if_neg (fun w => w c2)] at hx
        obtain ⟨q1, q2⟩ := nxR_next c1 c2
        have hlt := Int32.lt_iff_toInt_lt.mp q2
        have hal := (MB_all hMB F hF).2
        obtain ⟨svt, tvt, gt, ov2, tf2, go2, gq2, m1, a1, x1, x2, x3, x4, x5, x6, x7⟩ := step_next hF (mi := oum F mi ma) (FQ_mi h om4) (RR_oum hR) (by rw [om4]; exact hT) (by rw [om4]; exact b0) (by rw [oum_k (by decide)]; exact r1) (by rw [oum_k (by decide)]; exact r2) (by rw [oum_k (by decide)]; exact r3) (by rw [oum_k (by decide)]; exact r4) (by omega)
        rw [x3, bc_eq] at hx
        rw [om4] at x1 x7
        rw [q1, x1]
        simp only [x2, ↓reduceIte, nI_1]
        rw [x2] at x4
        obtain ⟨sv3, tv3, g3, ov3, tf3, go3, gq3, y1, y2, y3, y4, y5⟩ := sends_go hF fu (c + 1) fc m1 _ ov2 tf2 go2 gq2 _ tvt gt m a r x4 x5 (by rw [x7]; exact hT) hx (by omega) (by omega)
        rw [x7] at y1
        exact ⟨sv3, tv3, g3, ov3, tf3, go3, gq3, y1, y2, y3, SFR_trans (SFR_trans SFR_oum x6) y4, y5⟩
      · rw [if_pos c2] at hx
        have q1 := nxR_lost c1 c2
        obtain ⟨⟨k3, kr⟩, i, hi, ho⟩ := oul_rg c2
        obtain ⟨z1, z2, z3, z4⟩ := hn
        have hi2 : i < ((ma 46 F).toInt - (ma 44 F).toInt).toNat := hi
        have hk0 : k0 = 3 := (show k0 = ma 42 F from SQ_k hS).trans k3
        have hrec := (hI.2.2.2.2.2.2.2 k3).2 kr
        obtain ⟨svt, tvt, gt, ov2, tf2, go2, gq2, m1, a1, x1, x2, x3, x4, x5, x6, x7, _⟩ := step_lost hF (mi := oum F mi ma) (s := (ma 44 F).toInt.toNat + i) (FQ_mi h om4) (RR_oum hR) (by rw [oum_k (by decide)]; exact r1) (by rw [oum_k (by decide)]; exact r2) (by rw [oum_k (by decide)]; exact r3) (by rw [oum_k (by decide)]; exact r4) ⟨z1, z2, z3, z4⟩ (by omega) (by omega) (fun _ _ => hrec.2.1)
        rw [← ho] at x1 x3
        rw [x3, bc_eq] at hx
        rw [om4] at x1 x7
        have hne : ¬ oul F ma = svt 4 := by
          rw [x2 4 (by decide) (by decide), e4, ho]
          intro w
          have w2 := congrArg Int32.toInt w
          have e45 : (ma 45 F).toInt = (ma 46 F).toInt := congrArg Int32.toInt hrec.1
          rw [nI_toInt (by omega)] at w2
          omega
        rw [q1, x1]
        simp only [if_neg hne, nI_1]
        obtain ⟨sv3, tv3, g3, ov3, tf3, go3, gq3, y1, y2, y3, y4, y5⟩ := sends_go hF fu (c + 1) fc m1 a1 ov2 tf2 go2 gq2 svt tvt gt m a r x4 x5 (by rw [x7]; exact hT) hx (by omega) (by omega)
        rw [x7] at y1
        exact ⟨sv3, tv3, g3, ov3, tf3, go3, gq3, y1, y2, y3, SFR_trans (SFR_trans SFR_oum x6) y4, y5⟩

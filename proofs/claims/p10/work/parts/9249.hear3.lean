theorem heard_more {F K : Nat} (hF : F < 4) (hK : K < 6000) {T : Int} {k0 g0 A d n1 : Int32} {pk : A6} {sv tv bv cv : Nat → Int32} {f g : Nat → Int64} {mi m : Nat → Int32} {ma a : Nat → Nat → Int32} {r : Int32} {ov tf : Nat → Int32} {go : Option S4} {gq : List S3} (h : FQ F T k0 g0 sv tv bv cv f g mi ma) (hR : RR ov tf go gq mi ma) (hMB : MB mi ma) (hfl : (F : Int) < (mi 32).toInt) (hT : T = (mi 4).toInt) (hak : AKq F K pk ma) (hA : A = ma 22 K) (hAu : (ma 44 F).toInt < A.toInt) (hx : x_heard_74 (nI F) (nI K) mi ma A d = some (m, a, r)) : ∃ sv2 tv2 bv2 cv2 f2 g2 ov2 tf2 go2 gq2, xc_hear_59 ov go gq tf (nI F) k0 g0 pk n1 sv tv bv f g cv (mi 4) A d = (sv2, tv2, bv2, cv2, f2, g2, ov2, tf2, go2, gq2) ∧ FQ F T k0 g0 sv2 tv2 bv2 cv2 f2 g2 m a ∧ RR ov2 tf2 go2 gq2 m a ∧ SFR F mi ma m a := by
  have hS := h.1
  have hI := h.2.1
  have hn := NB_of hF hMB hI
  obtain ⟨n1', n2', n3', n4'⟩ := hn
  have e3 : sv 3 = ma 44 F := SQ_s3 hS
  have e4 : sv 4 = ma 45 F := SQ_s4 hS
  have e5 : sv 5 = ma 46 F := SQ_s5 hS
  have e11 : sv 11 = ma 54 F := SQ_s11 hS
  have ek : k0 = ma 42 F := SQ_k hS
  have hti := MB_tick hMB
  obtain ⟨k1, k2, k3, k4, k5, k6, k7⟩ := hak
  have hA46 : A.toInt ≤ (ma 46 F).toInt := by rw [hA]; exact k7
  have hu0 := MB_high hMB F hF
  have q : (ma 44 F).toInt ≤ (ma 45 F).toInt ∧ (ma 45 F).toInt ≤ (ma 46 F).toInt ∧ (ma 55 F).toInt ≤ (ma 46 F).toInt := hI.2.2.2.2.2.2.1
  have esub : (A - ma 44 F).toInt = A.toInt - (ma 44 F).toInt := ti_sub (x := A - ma 44 F) rfl (by omega) (by omega)
  have hnz : ¬ A - ma 44 F ≤ 0 := fun w => by
    have := Int32.le_iff_toInt_le.mp w
    rw [esub, show (0 : Int32).toInt = 0 by decide] at this
    omega
  have hback : ma 44 F + (A - ma 44 F) = A := by
    rw [Int32.add_comm]
    exact Int32.sub_add_cancel _ _
  obtain ⟨X, hX⟩ : ∃ X, X = cpy (ma 71) (ma 25) (200 * F) (200 * K) 0 200 := ⟨_, rfl⟩
  have hXi : ∀ i, i < 200 → X (200 * F + i) = ma 25 (200 * K + i) := fun i hi => by
    rw [hX]
    unfold cpy
    rw [if_pos (show 200 * F + 0 ≤ 200 * F + i ∧ 200 * F + i < 200 * F + 200 by omega), show 200 * F + i - 200 * F = i by omega]
  have hXo : ∀ i, i / 200 ≠ F → X i = ma 71 i := fun i hi => by
    rw [hX]
    unfold cpy
    exact if_neg (fun w => by omega)
  obtain ⟨hm0, hm1, hm2, hm3, hm4⟩ := meas_SI (a := A) hI rfl hT hti.2
  obtain ⟨w, hw⟩ : ∃ w, w = (v_measures A mi (col ma F)).1 := ⟨_, rfl⟩
  rw [← hw] at hm0 hm1 hm2 hm3 hm4
  have w45 : w 45 = ma 45 F := hm0 45 (by decide)
  obtain ⟨N, hN⟩ : ∃ N, N = (if A ≤ ma 45 F then ma 45 F else A) := ⟨_, rfl⟩
  have Nr : A.toInt ≤ N.toInt ∧ N.toInt ≤ (ma 46 F).toInt ∧ (ma 45 F).toInt ≤ N.toInt ∧ (N = ma 45 F ∨ N = A) := by
    rw [hN]
    by_cases c : A ≤ ma 45 F
    · have := Int32.le_iff_toInt_le.mp c
      rw [if_pos c]
      exact ⟨by omega, by omega, by omega, Or.inl rfl⟩
    · have := Int32.lt_iff_toInt_lt.mp (Int32.not_le.mp c)
      rw [if_neg c]
      exact ⟨by omega, by omega, by omega, Or.inr rfl⟩
  have hUw : UF [69, 52, 50, 51, 49, 44, 45, 60] (col ma F) (upd (upd (upd w 44 A) 45 N) 60 (ma 23 K)) := UF_upd (UF_upd (UF_upd (UF_mono hm0 (by decide)) (by decide)) (by decide)) (by decide)
  obtain ⟨V0, hV0⟩ : ∃ V, V = upd (upd (upd w 44 A) 45 N) 60 (ma 23 K) := ⟨_, rfl⟩
  obtain ⟨V, hV⟩ : ∃ V, V = (if N ≤ A then upd V0 61 (-1) else upd V0 61 (mi 4 + V0 49)) := ⟨_, rfl⟩
  have hUV : UF [69, 52, 50, 51, 49, 44, 45, 60, 61] (col ma F) V := by
    rw [← hV0] at hUw
    rw [hV]
    by_cases c : N ≤ A
    · rw [if_pos c]
      exact UF_upd (UF_mono hUw (by decide)) (by decide)
    · rw [if_neg c]
      exact UF_upd (UF_mono hUw (by decide)) (by decide)
  have v0k : ∀ k, k ≠ 61 → V k = V0 k := fun k hk => by
    rw [hV]
    by_cases c : N ≤ A
    · rw [if_pos c]
      exact upd_b hk
    · rw [if_neg c]
      exact upd_b hk
  have v44 : V 44 = A := by rw [v0k 44 (by decide), hV0, upd_b (by decide), upd_b (by decide), upd_a]
  have v45 : V 45 = N := by rw [v0k 45 (by decide), hV0, upd_b (by decide), upd_a]
  have v60 : V 60 = ma 23 K := by rw [v0k 60 (by decide), hV0, upd_a]
  have vw : ∀ k, k ≠ 61 → k ≠ 60 → k ≠ 45 → k ≠ 44 → V k = w k := fun k h1 h2 h3 h4 => by rw [v0k k h1, hV0, upd_b h2, upd_b h3, upd_b h4]
  have hB2 : x_heard_74 (nI F) (nI K) mi ma A d = x_heard_255 (nI F) (nI K) mi (Bc ma F V X) A d (A - ma 44 F) := by
    rw [h74_eq hF hK, if_neg hnz, ← hw, w45, ← hN, setc_keep hm0 (show 23 ∉ ([69, 52, 50, 51, 49] : List Nat) by decide)]
    have := h143 hF hK (mi := mi) (i3 := A) (i4 := d) (i5 := A - ma 44 F) 201 0 (setc ma F (upd (upd (upd w 44 A) 45 N) 60 (ma 23 K))) (by omega) (by omega) (by rw [setc_keep hUw (by decide)]; exact fun i hi => by rw [k4 i hi]; exact b01_z)
    rw [show nI 0 = (0 : Int32) by decide] at this
    rw [this, setc_keep hUw (show 71 ∉ ([69, 52, 50, 51, 49, 44, 45, 60] : List Nat) by decide), setc_keep hUw (show 25 ∉ ([69, 52, 50, 51, 49, 44, 45, 60] : List Nat) by decide), ← hX, ← hV0]
    unfold h200
    have hbc : va_up (setc ma F V0) 71 X = Bc ma F V0 X := rfl
    have f45 : Bc ma F V0 X 45 F = N := by rw [Bc_F (by decide), hV0, upd_b (by decide), upd_a]
    have f44 : Bc ma F V0 X 44 F = A := by rw [Bc_F (by decide), hV0, upd_b (by decide), upd_b (by decide), upd_a]
    have f49 : Bc ma F V0 X 49 F = V0 49 := Bc_F (by decide)
    rw [if_neg hnz, hbc, f45, f44, f49, Bc_up (by decide), Bc_up (by decide), h224_eq hF, h224_eq hF]
    have g45 : ∀ z, Bc ma F (upd V0 61 z) X 45 F = N := fun z => by rw [Bc_F (by decide), upd_b (by decide), hV0, upd_b (by decide), upd_a]
    have g44 : ∀ z, Bc ma F (upd V0 61 z) X 44 F = A := fun z => by rw [Bc_F (by decide), upd_b (by decide), hV0, upd_b (by decide), upd_b (by decide), upd_a]
    rw [g45, g44, g45, g44, Bc_up (by decide), Bc_up (by decide), hV]
    by_cases c : N ≤ A
    · rw [if_pos c, if_pos c, upd_upd]
      split <;> rfl
    · rw [if_neg c, if_neg c, if_neg (show ¬ (¬ Bc ma F (upd V0 61 (mi 4 + V0 49)) X 60 F ≤ 0 ∧ N = A) from fun w => c (by rw [w.2]; exact Int32.le_refl _))]
  rw [hB2] at hx
  have eB : ∀ k, k ∉ ([69, 52, 50, 51, 49, 44, 45, 60, 61] : List Nat) → k ≠ 71 → Bc ma F V X k = ma k := fun k h1 h2 => Bc_k hUV h1 h2
  have b44 : Bc ma F V X 44 F = A := by rw [Bc_F (by decide)]; exact v44
  have b45 : Bc ma F V X 45 F = N := by rw [Bc_F (by decide)]; exact v45
  have b46 : Bc ma F V X 46 F = ma 46 F := by rw [eB 46 (by decide) (by decide)]
  -- numbers
  have hs1 := SQ_told (mi := mi) (a := A) hS hI.2.1
  rw [← hw] at hs1
  have hs2 : SQ (upd (upd (upd sv 3 A) 4 N) 9 (ma 23 K)) (xc_ttold tv A (mi 4)) cv k0 g0 V0 := by
    rw [hV0]
    exact SQ_us9 (SQ_us4 (SQ_us3 hs1 rfl) rfl) rfl
  have esv : upd (upd (upd sv 3 A) 4 N) 9 (ma 23 K) = upd (upd (upd sv 9 (ma 23 K)) 3 A) 4 N := by
    rw [upd_comm (show (4 : Nat) ≠ 9 by decide), upd_comm (show (3 : Nat) ≠ 9 by decide)]
  rw [esv] at hs2
  obtain ⟨tvn, htv⟩ : ∃ y, y = (if N ≤ A then upd (xc_ttold tv A (mi 4)) 3 (-1) else upd (xc_ttold tv A (mi 4)) 3 (mi 4 + xc_ttold tv A (mi 4) 0)) := ⟨_, rfl⟩
  have hs3 : SQ (upd (upd (upd sv 9 (ma 23 K)) 3 A) 4 N) tvn cv k0 g0 (col (Bc ma F V X) F) := by
    refine SQ_congr ?_ Bc_AG
    rw [htv, hV]
    by_cases c : N ≤ A
    · rw [if_pos c, if_pos c]
      exact SQ_ut3 hs2 rfl
    · rw [if_neg c, if_neg c]
      exact SQ_ut3 hs2 (by rw [SQ_t0 hs2])
  have hsi : SI2 T (mi 4) (col (Bc ma F V X) F) := by
    have key : SI2 T (mi 4) V := by
      obtain ⟨i1, i2, i3, i4, i5, i6, i7, i8⟩ := hI
      unfold SI2
      rw [v44, v45, vw 50 (by decide) (by decide) (by decide) (by decide), vw 52 (by decide) (by decide) (by decide) (by decide), vw 69 (by decide) (by decide) (by decide) (by decide), vw 49 (by decide) (by decide) (by decide) (by decide), hUV 70 (by decide), hUV 67 (by decide), hUV 64 (by decide), hUV 46 (by decide), hUV 55 (by decide), hUV 42 (by decide), hUV 54 (by decide), hUV 56 (by decide)]
      refine ⟨hm1, hm2, hm3, i4, i5, hm4, ⟨Nr.1, Nr.2.1, q.2.2⟩, fun k3' => ⟨?_, fun hr => ?_⟩⟩
      · rcases (i8 k3').1 with z | z | z
        · have z' : ma 45 F = ma 46 F := z
          have z2 := congrArg Int32.toInt z'
          refine Or.inl (Int32.toInt_inj.mp ?_)
          show N.toInt = (ma 46 F).toInt
          omega
        · have z1 : ma 54 F = 0 := z.1
          have z2 : (ma 55 F).toInt = (ma 46 F).toInt := congrArg Int32.toInt z.2.1
          rcases Int.lt_or_le A.toInt (ma 55 F).toInt with y | y
          · exact Or.inr (Or.inl ⟨z1, z.2.1, y⟩)
          · refine Or.inl (Int32.toInt_inj.mp ?_)
            show N.toInt = (ma 46 F).toInt
            omega
        · have z2 : (ma 45 F).toInt = (ma 44 F).toInt := congrArg Int32.toInt z.2.1
          have z3 : (ma 46 F).toInt = (ma 45 F).toInt + 1 := z.2.2
          refine Or.inl (Int32.toInt_inj.mp ?_)
          show N.toInt = (ma 46 F).toInt
          omega
      · obtain ⟨r1, r2, r3, r4, r5⟩ := (i8 k3').2 hr
        have r1' : (ma 45 F).toInt = (ma 46 F).toInt := congrArg Int32.toInt r1
        have r2' : (ma 56 F).toInt ≤ (ma 44 F).toInt := r2
        refine ⟨Int32.toInt_inj.mp ?_, ?_, r4, r5⟩
        · show N.toInt = (ma 46 F).toInt
          omega
        · show (ma 56 F).toInt ≤ A.toInt
          omega
    unfold SI2 at key ⊢
    have hAG := Bc_AG (ma := ma) (F := F) (V := V) (X := X)
    rw [hAG 50 (by decide) (by decide), hAG 52 (by decide) (by decide), hAG 69 (by decide) (by decide), hAG 70 (by decide) (by decide), hAG 67 (by decide) (by decide), hAG 64 (by decide) (by decide), hAG 49 (by decide) (by decide), hAG 44 (by decide) (by decide), hAG 45 (by decide) (by decide), hAG 46 (by decide) (by decide), hAG 55 (by decide) (by decide), hAG 42 (by decide) (by decide), hAG 54 (by decide) (by decide), hAG 56 (by decide) (by decide)]
    exact key
  have hRB : RR ov tf go gq mi (Bc ma F V X) := Bc_RR hR hUV (by decide)
  have hSB : SFR F mi ma mi (Bc ma F V X) := Bc_SFR hUV (by decide) hXo
  have eN : A.toInt.toNat = (ma 22 K).toInt.toNat := by rw [hA]
  -- the marks that are dropped
  have hdr : ∃ g2, (if k0 = 3 ∧ ¬ sv 11 = 0 then xc_bgoOn bv f g (ma 44 F) A else (bv, f, g)) = (bv, f, g2) ∧ (k0 = 3 → ¬ ma 54 F = 0 → RSq F g2 (Bc ma F V X)) := by
    by_cases c : k0 = 3 ∧ ¬ sv 11 = 0
    · rw [if_pos c, nIof n1', nIof (show 0 ≤ A.toInt by omega)]
      obtain ⟨g2, x1, x2⟩ := bgoOn_eq (bv := bv) (f := f) (g := g) (U := (ma 44 F).toInt.toNat) (V := A.toInt.toNat) (by omega) (by omega)
      refine ⟨g2, x1, fun hk hr => ?_⟩
      have r2 := ((h.2.2 hk).2.2.2.2 hr).2
      exact RSq_drop r2 (by rw [eB 56 (by decide) (by decide)]) b46 (eB 72 (by decide) (by decide)) n1' (by rw [b44]; omega) (by rw [b44]; exact hA46) n4' (by rw [b44]; exact x2)
    · rw [if_neg c]
      exact ⟨g, rfl, fun hk hr => absurd ⟨hk, by rw [e11]; exact hr⟩ c⟩
  obtain ⟨g2, hg2, hRS⟩ := hdr
  have hbd : ∃ bv2 f2, (if k0 = 3 then xc_blearnP bv f g2 A (ma 46 F) pk.2.2.2.2.2 else (bv, f, g2)) = (bv2, f2, g2) ∧ (k0 = 3 → BQ2 F bv2 f2 g2 (Bc ma F V X)) := by
    by_cases c : k0 = 3
    · rw [if_pos c]
      have hB := h.2.2 c
      have hH : ma 46 F = nI (A.toInt.toNat + ((ma 46 F).toInt - A.toInt).toNat) := by
        rw [show A.toInt.toNat + ((ma 46 F).toInt - A.toInt).toNat = (ma 46 F).toInt.toNat by omega]
        exact nIof (by omega)
      have z0 : X (200 * F) = 0 := by
        have := hXi 0 (by omega)
        rw [show 200 * F + 0 = 200 * F from rfl, show 200 * K + 0 = 200 * K from rfl] at this
        rw [this]
        exact k5
      have z1 : ∀ i : Nat, i < 200 → ¬ Bc ma F V X 71 (200 * F + i) = 0 → (Bc ma F V X 44 F).toInt + i < (Bc ma F V X 46 F).toInt := fun i hi w => by
        rw [Bc_71, hXi i hi] at w
        have := k6 i hi w
        rw [b44, b46, hA]
        exact this
      obtain ⟨y, f2, x1, x2, x3⟩ := BQ_learn (F := F) (V := A.toInt.toNat) (L := ((ma 46 F).toInt - A.toInt).toNat) (row := pk.2.2.2.2.2) (bv := bv) (f := f) (g := g2) (a := Bc ma F V X) (by rw [b44]; exact nIof (by omega)) (by rw [b46]; exact hH) (by omega) (by omega) (fun i hi => by rw [Bc_71, hXi i hi, k4 i hi, eN]) (by rw [Bc_71]; exact z0) z1
      rw [b44, b46] at x1
      refine ⟨_, f2, x1, fun _ => ⟨x2, by rw [Bc_71]; exact z0, z1, x3, fun hr _ => ?_⟩⟩
      rw [eB 54 (by decide) (by decide)] at hr
      exact ⟨by rw [upd_b (by decide), eB 56 (by decide) (by decide)]; exact (hB.2.2.2.2 hr).1, hRS c hr⟩
    · rw [if_neg c]
      exact ⟨bv, f, rfl, fun w => absurd w c⟩
  obtain ⟨bv2, f2, hl, hBQ⟩ := hbd
  have h90 : xc_hear_59 ov go gq tf (nI F) k0 g0 pk n1 sv tv bv f g cv (mi 4) A d = xc_hear_117 ov go gq tf (nI F) k0 g0 pk n1 (upd (upd (upd sv 9 (ma 23 K)) 3 A) 4 N) tvn bv2 f2 g2 cv (mi 4) A d (A - ma 44 F) := by
    unfold xc_hear_59 xc_hear_90
    simp only [bd_eq, xc_sgoOn_eq]
    rw [e3, if_neg hnz, k2]
    simp (decide := true) only [upd_a, upd_b, ne_eq, not_false_eq_true]
    rw [e3, e4, e5, hback, ← hN, ← htv]
    have p1 : (if k0 = 3 ∧ ¬ sv 11 = 0 then (xc_bgoOn bv f g (ma 44 F) A).1 else bv) = bv := by
      by_cases c : k0 = 3 ∧ ¬ sv 11 = 0
      · rw [if_pos c] at hg2 ⊢
        rw [hg2]
      · rw [if_neg c]
    have p2 : (if k0 = 3 ∧ ¬ sv 11 = 0 then (xc_bgoOn bv f g (ma 44 F) A).2.1 else f) = f := by
      by_cases c : k0 = 3 ∧ ¬ sv 11 = 0
      · rw [if_pos c] at hg2 ⊢
        rw [hg2]
      · rw [if_neg c]
    have p3 : (if k0 = 3 ∧ ¬ sv 11 = 0 then (xc_bgoOn bv f g (ma 44 F) A).2.2 else g) = g2 := by
      by_cases c : k0 = 3 ∧ ¬ sv 11 = 0
      · rw [if_pos c] at hg2 ⊢
        rw [hg2]
      · rw [if_neg c] at hg2 ⊢
        exact congrArg (fun x => x.2.2) hg2
    rw [p1, p2, p3]
    by_cases c : k0 = 3
    · rw [if_pos c] at hl ⊢
      rw [hl]
    · rw [if_neg c] at hl ⊢
      simp only [Prod.mk.injEq, and_true] at hl
      rw [← hl.1, ← hl.2]
  rw [h90]
  unfold x_heard_255 at hx
  rw [if_neg hnz] at hx
  have hge := MB_ge1c hMB F hfl
  have hcw := MB_cwnd hMB F hF
  have hwm := MB_wmax hMB F hF
  obtain ⟨m', a', sv2, tv2, cv2, g3, ov2, tf2, go2, gq2, x1, x2, x3, x4, x5⟩ := more_pair hF (pk := pk) (n1 := n1) (i4 := A) (i5 := d) (i6 := A - ma 44 F) (⟨hs3, hsi, hBQ⟩ : FQ2 F T k0 g0 (upd (upd (upd sv 9 (ma 23 K)) 3 A) 4 N) tvn bv2 cv f2 g2 mi (Bc ma F V X)) hRB (by unfold NB; rw [b44, b46]; exact ⟨by omega, by omega, hA46, by omega⟩) (MB_told hMB).1 (MB_told hMB).2 (MB_room hMB).1 (MB_room hMB).2 (by rw [eB 47 (by decide) (by decide)]; exact hge) (by rw [eB 47 (by decide) (by decide)]; exact hcw.2) (by rw [eB 63 (by decide) (by decide)]; exact hwm.2) hti.1 hti.2 hnz
  rw [b44] at x1
  rw [x1, bc_eq] at hx
  have hx := Option.some.inj hx
  have q1 : m' = m := congrArg Prod.fst hx
  have q2 : a' = a := congrArg (fun x => x.2.1) hx
  subst q1 q2
  rw [x2]
  exact ⟨_, _, _, _, _, _, _, _, _, _, rfl, x3, x4, SFR_trans hSB x5⟩
theorem heard_pair {F K : Nat} (hF : F < 4) (hK : K < 6000) {T : Int} {k0 g0 : Int32} {pk : A6} {sv tv bv cv : Nat → Int32} {f g : Nat → Int64} {mi m : Nat → Int32} {ma a : Nat → Nat → Int32} {r : Int32} {ov tf : Nat → Int32} {go : Option S4} {gq : List S3} (h : FQ F T k0 g0 sv tv bv cv f g mi ma) (hR : RR ov tf go gq mi ma) (hT : T = (mi 4).toInt) (hak : AKq F K pk ma) (hx : x_heard (nI F) (nI K) mi ma = some (m, a, r)) : ∃ sv2 tv2 bv2 cv2 f2 g2 ov2 tf2 go2 gq2, xc_hear ov go gq tf (nI F) k0 g0 sv tv bv cv f g (mi 4) pk = (sv2, tv2, bv2, cv2, f2, g2, ov2, tf2, go2, gq2) ∧ FQ F T k0 g0 sv2 tv2 bv2 cv2 f2 g2 m a ∧ RR ov2 tf2 go2 gq2 m a ∧ SFR F mi ma m a := by
  unfold x_heard at hx
  obtain ⟨⟨hMB, ⟨_, hfl⟩, _⟩, hx⟩ := ax_some hx
  rw [nI_toInt (show F < 2 ^ 31 by omega)] at hfl
  have hF2 : (nI F).toNatClampNeg = F := nI_clamp (by omega)
  have hK2 : (nI K).toNatClampNeg = K := nI_clamp (by omega)
  have hS := h.1
  have hI := h.2.1
  have e3 : sv 3 = ma 44 F := SQ_s3 hS
  have e4 : sv 4 = ma 45 F := SQ_s4 hS
  have e9 : sv 9 = ma 60 F := SQ_s9 hS
  have hak2 := hak
  obtain ⟨k1, k2, k3, _⟩ := hak2
  have q : (ma 44 F).toInt ≤ (ma 45 F).toInt ∧ (ma 45 F).toInt ≤ (ma 46 F).toInt ∧ (ma 55 F).toInt ≤ (ma 46 F).toInt := hI.2.2.2.2.2.2.1
  simp only [bd_eq, hF2, hK2] at hx
  unfold xc_hear xc_hear_58
  simp only [bd_eq]
  rw [e3, e4, e9, k1, k2]
  have more : ∀ d : Int32, ¬ ma 22 K = ma 44 F → ma 44 F ≤ ma 22 K → x_heard_74 (nI F) (nI K) mi ma (ma 22 K) d = some (m, a, r) → ∃ sv2 tv2 bv2 cv2 f2 g2 ov2 tf2 go2 gq2, xc_hear_59 ov go gq tf (nI F) k0 g0 pk (mi 4) sv tv bv f g cv (mi 4) (ma 22 K) d = (sv2, tv2, bv2, cv2, f2, g2, ov2, tf2, go2, gq2) ∧ FQ F T k0 g0 sv2 tv2 bv2 cv2 f2 g2 m a ∧ RR ov2 tf2 go2 gq2 m a ∧ SFR F mi ma m a := fun d hne hle hx => by
    have h1 := Int32.le_iff_toInt_le.mp hle
    have h2 : (ma 22 K).toInt ≠ (ma 44 F).toInt := fun w => hne (Int32.toInt_inj.mp w)
    exact heard_more hF hK h hR hMB hfl hT hak rfl (by omega) hx
  by_cases c1 : ma 44 F ≤ ma 22 K
  · rw [if_pos c1] at hx ⊢
    by_cases c2 : ma 22 K = ma 44 F
    · rw [if_pos c2] at hx ⊢
      by_cases c3 : ma 23 K = ma 60 F
      · rw [if_pos c3] at hx ⊢
        by_cases c4 : ma 45 F ≤ ma 44 F
        · rw [if_pos c4] at hx ⊢
          exact heard_none hF hK h hR hMB hak rfl c2 (Or.inl rfl) hx
        · rw [if_neg c4] at hx ⊢
          have c4i := Int32.lt_iff_toInt_lt.mp (Int32.not_le.mp c4)
          by_cases c5 : ma 24 K = 0
          · rw [if_pos c5] at hx
            rw [if_neg (show ¬ pk.2.2.2.1 = 0 from fun w => k3.mp w c5)]
            exact heard_none hF hK h hR hMB hak rfl c2 (Or.inl rfl) hx
          · rw [if_neg c5] at hx
            rw [if_pos (k3.mpr c5)]
            exact heard_none hF hK h hR hMB hak rfl c2 (Or.inr ⟨rfl, c4i⟩) hx
      · rw [if_neg c3] at hx ⊢
        exact heard_none hF hK h hR hMB hak rfl c2 (Or.inl rfl) hx
    · rw [if_neg c2] at hx ⊢
      exact more 0 c2 c1 hx
  · rw [if_neg c1] at hx ⊢
    have hx := Option.some.inj hx
    have q1 : mi = m := congrArg Prod.fst hx
    have q2 : ma = a := congrArg (fun x => x.2.1) hx
    subst q1 q2
    exact ⟨_, _, _, _, _, _, _, _, _, _, rfl, h, hR, SFR_refl⟩

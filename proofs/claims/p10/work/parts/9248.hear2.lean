def Bc (ma : Nat → Nat → Int32) (F : Nat) (V X : Nat → Int32) : Nat → Nat → Int32 := va_up (setc ma F V) 71 X
theorem Bc_71 {ma : Nat → Nat → Int32} {F : Nat} {V X : Nat → Int32} : Bc ma F V X 71 = X := va_up_self _ _ _
theorem Bc_F {ma : Nat → Nat → Int32} {F k : Nat} {V X : Nat → Int32} (h : k ≠ 71) : Bc ma F V X k F = V k := by
  unfold Bc
  rw [va_up_ne _ _ h, setc_at]
theorem Bc_up {ma : Nat → Nat → Int32} {F k : Nat} {V X : Nat → Int32} {z : Int32} (h : k ≠ 71) : va_up (Bc ma F V X) k (upd (Bc ma F V X k) F z) = Bc ma F (upd V k z) X := by
  unfold Bc
  funext j
  by_cases e : j = k
  · rw [e, va_up_self, va_up_ne _ _ h, va_up_ne _ _ h]
    funext i
    by_cases e2 : i = F
    · rw [e2, upd_a, setc_at, upd_a]
    · rw [upd_b e2, setc_ne e2, setc_ne e2]
  · rw [va_up_ne _ _ e]
    by_cases e1 : j = 71
    · rw [e1, va_up_self, va_up_self]
    · rw [va_up_ne _ _ e1, va_up_ne _ _ e1]
      funext i
      by_cases e2 : i = F
      · rw [e2, setc_at, setc_at, upd_b e]
      · rw [setc_ne e2, setc_ne e2]
theorem Bc_k {ma : Nat → Nat → Int32} {F k : Nat} {V X : Nat → Int32} {l : List Nat} (hU : UF l (col ma F) V) (h : k ∉ l) (h71 : k ≠ 71) : Bc ma F V X k = ma k := by
  unfold Bc
  rw [va_up_ne _ _ h71]
  exact setc_keep hU h
theorem Bc_AG {ma : Nat → Nat → Int32} {F : Nat} {V X : Nat → Int32} : AG V (col (Bc ma F V X) F) := fun k h1 h2 => Bc_F (by omega)
theorem Bc_SFR {F : Nat} {mi : Nat → Int32} {ma : Nat → Nat → Int32} {V X : Nat → Int32} {l : List Nat} (hU : UF l (col ma F) V) (hl : ∀ k, k ∈ l → 42 ≤ k ∧ k ≤ 70 ∧ k ≠ 46) (hX : ∀ i, i / 200 ≠ F → X i = ma 71 i) : SFR F mi ma mi (Bc ma F V X) := by
  refine ⟨fun _ _ => rfl, fun k i hk hi => ?_, by rw [Bc_k hU (fun w => by have := hl 46 w; omega) (by decide)]; exact Int.le_refl _⟩
  by_cases e : k = 71
  · rw [e, Bc_71]
    exact hX i (by omega)
  · by_cases w : k ∈ l
    · have := hl k w
      unfold Bc
      rw [va_up_ne _ _ e]
      exact setc_ne (by omega)
    · rw [Bc_k hU w e]
theorem Bc_RR {F : Nat} {ov tf : Nat → Int32} {go : Option S4} {gq : List S3} {mi : Nat → Int32} {ma : Nat → Nat → Int32} {V X : Nat → Int32} {l : List Nat} (h : RR ov tf go gq mi ma) (hU : UF l (col ma F) V) (hl : ∀ k, k ∈ l → 42 ≤ k ∧ k ≤ 70 ∧ k ≠ 46) : RR ov tf go gq mi (Bc ma F V X) := by
  refine RR_keep h (fun k _ => rfl) (fun k hk => Bc_k hU (fun w => ?_) (fun e => by rw [e] at hk; revert hk; decide)) (fun i => ?_)
  · have := hl k w
    revert hk
    simp only [List.mem_cons, List.not_mem_nil, or_false]
    omega
  · rw [Bc_k hU (fun w => by have := hl 46 w; omega) (by decide)]
    exact Int.le_refl _
theorem heard_none {F K : Nat} (hF : F < 4) (hK : K < 6000) {T : Int} {k0 g0 A d n1 : Int32} {pk : A6} {sv tv bv cv : Nat → Int32} {f g : Nat → Int64} {mi m : Nat → Int32} {ma a : Nat → Nat → Int32} {r : Int32} {ov tf : Nat → Int32} {go : Option S4} {gq : List S3} (h : FQ F T k0 g0 sv tv bv cv f g mi ma) (hR : RR ov tf go gq mi ma) (hMB : MB mi ma) (hak : AKq F K pk ma) (hA : A = ma 22 K) (hAu : A = ma 44 F) (hd : d = 0 ∨ (d = 1 ∧ (ma 44 F).toInt < (ma 45 F).toInt)) (hx : x_heard_74 (nI F) (nI K) mi ma A d = some (m, a, r)) : ∃ sv2 tv2 bv2 cv2 f2 g2 ov2 tf2 go2 gq2, xc_hear_59 ov go gq tf (nI F) k0 g0 pk n1 sv tv bv f g cv (mi 4) A d = (sv2, tv2, bv2, cv2, f2, g2, ov2, tf2, go2, gq2) ∧ FQ F T k0 g0 sv2 tv2 bv2 cv2 f2 g2 m a ∧ RR ov2 tf2 go2 gq2 m a ∧ SFR F mi ma m a := by
  have hS := h.1
  have hI := h.2.1
  have hn := NB_of hF hMB hI
  obtain ⟨n1', n2', n3', n4'⟩ := hn
  have e3 : sv 3 = ma 44 F := SQ_s3 hS
  have e4 : sv 4 = ma 45 F := SQ_s4 hS
  have e5 : sv 5 = ma 46 F := SQ_s5 hS
  have hw := MB_w hMB F hF
  obtain ⟨k1, k2, k3, k4, k5, k6, k7⟩ := hak
  have hdz : A - ma 44 F = 0 := by rw [hAu]; exact Int32.sub_self _
  obtain ⟨X, hX⟩ : ∃ X, X = cpy (ma 71) (ma 25) (200 * F) (200 * K) 0 200 := ⟨_, rfl⟩
  have hXi : ∀ i, i < 200 → X (200 * F + i) = ma 25 (200 * K + i) := fun i hi => by
    rw [hX]
    unfold cpy
    rw [if_pos (show 200 * F + 0 ≤ 200 * F + i ∧ 200 * F + i < 200 * F + 200 by omega), show 200 * F + i - 200 * F = i by omega]
  have hXo : ∀ i, i / 200 ≠ F → X i = ma 71 i := fun i hi => by
    rw [hX]
    unfold cpy
    exact if_neg (fun w => by omega)
  have hU0 : UF [60] (col ma F) (upd (col ma F) 60 (ma 23 K)) := UF_upd UF_refl (by decide)
  obtain ⟨V, hV⟩ : ∃ V, V = (if ¬ ma 23 K ≤ 0 ∧ ma 45 F = ma 44 F then upd (upd (col ma F) 60 (ma 23 K)) 61 (-1) else upd (col ma F) 60 (ma 23 K)) := ⟨_, rfl⟩
  have hUV : UF [60, 61] (col ma F) V := by
    rw [hV]
    by_cases c : ¬ ma 23 K ≤ 0 ∧ ma 45 F = ma 44 F
    · rw [if_pos c]
      exact UF_upd (UF_mono hU0 (by decide)) (by decide)
    · rw [if_neg c]
      exact UF_mono hU0 (by decide)
  have hB2 : x_heard_74 (nI F) (nI K) mi ma A d = x_heard_255 (nI F) (nI K) mi (Bc ma F V X) A d 0 := by
    rw [h74_eq hF hK, hdz, if_pos (Int32.le_refl _)]
    have := h143 hF hK (mi := mi) (i3 := A) (i4 := d) (i5 := 0) 201 0 (setc ma F (upd (col ma F) 60 (ma 23 K))) (by omega) (by omega) (by rw [setc_keep hU0 (by decide)]; exact fun i hi => by rw [k4 i hi]; exact b01_z)
    rw [show nI 0 = (0 : Int32) by decide] at this
    rw [this, setc_keep hU0 (show 71 ∉ ([60] : List Nat) by decide), setc_keep hU0 (show 25 ∉ ([60] : List Nat) by decide), ← hX]
    unfold h200
    rw [if_pos (Int32.le_refl _), h224_eq hF]
    have hbc : va_up (setc ma F (upd (col ma F) 60 (ma 23 K))) 71 X = Bc ma F (upd (col ma F) 60 (ma 23 K)) X := rfl
    rw [hbc, Bc_F (by decide), Bc_F (by decide), Bc_F (by decide), Bc_up (by decide), upd_a, upd_b (by decide), upd_b (by decide), hV]
    by_cases c : ¬ ma 23 K ≤ 0 ∧ ma 45 F = ma 44 F
    · rw [if_pos c, if_pos (show ¬ ma 23 K ≤ 0 ∧ col ma F 45 = col ma F 44 from c)]
    · rw [if_neg c, if_neg (show ¬ (¬ ma 23 K ≤ 0 ∧ col ma F 45 = col ma F 44) from c)]
  rw [hB2] at hx
  have eB : ∀ k, k ∉ ([60, 61] : List Nat) → k ≠ 71 → Bc ma F V X k = ma k := fun k h1 h2 => Bc_k hUV h1 h2
  have hsv : SQ (upd sv 9 (ma 23 K)) (if ¬ ma 23 K ≤ 0 ∧ ma 45 F = ma 44 F then upd tv 3 (-1) else tv) cv k0 g0 (col (Bc ma F V X) F) := by
    refine SQ_congr ?_ Bc_AG
    rw [hV]
    by_cases c : ¬ ma 23 K ≤ 0 ∧ ma 45 F = ma 44 F
    · rw [if_pos c, if_pos c]
      exact SQ_ut3 (SQ_us9 hS rfl) rfl
    · rw [if_neg c, if_neg c]
      exact SQ_us9 hS rfl
  have hsi : SI T (mi 4) (col (Bc ma F V X) F) := SI_congr (SI_UF hI hUV (by decide)) Bc_AG
  have hRB : RR ov tf go gq mi (Bc ma F V X) := Bc_RR hR hUV (by decide)
  have hSB : SFR F mi ma mi (Bc ma F V X) := Bc_SFR hUV (by decide) hXo
  have eN : (ma 44 F).toInt.toNat = (ma 22 K).toInt.toNat := by rw [← hAu, hA]
  -- the boards
  have hbd : ∃ bv2 f2, (if k0 = 3 then xc_blearnP bv f g (ma 44 F) (ma 46 F) pk.2.2.2.2.2 else (bv, f, g)) = (bv2, f2, g) ∧ (k0 = 3 → BQ F bv2 f2 g (Bc ma F V X)) := by
    by_cases c : k0 = 3
    · rw [if_pos c]
      have hB := h.2.2 c
      have hH : ma 46 F = nI ((ma 44 F).toInt.toNat + ouL F ma) := by
        rw [nIof (show 0 ≤ (ma 46 F).toInt by omega)]
        unfold ouL
        congr 1
        omega
      obtain ⟨y, f2, x1, x2, x3⟩ := BQ_learn (F := F) (V := (ma 44 F).toInt.toNat) (L := ouL F ma) (row := pk.2.2.2.2.2) (bv := bv) (f := f) (g := g) (a := Bc ma F V X) (by rw [eB 44 (by decide) (by decide)]; exact nIof n1') (by rw [eB 46 (by decide) (by decide)]; exact hH) (by omega) (by unfold ouL; omega) (fun i hi => by rw [Bc_71, hXi i hi, k4 i hi, eN]) (by rw [Bc_71]; have := hXi 0 (by omega); rw [show 200 * F + 0 = 200 * F from rfl, show 200 * K + 0 = 200 * K from rfl] at this; rw [this]; exact k5) (fun i hi w => by rw [Bc_71, hXi i hi] at w; have := k6 i hi w; rw [eB 44 (by decide) (by decide), eB 46 (by decide) (by decide), ← hAu, hA]; exact this)
      rw [eB 44 (by decide) (by decide), eB 46 (by decide) (by decide)] at x1
      refine ⟨_, f2, x1, fun _ => ⟨x2, ?_, ?_, x3, fun hr => ?_⟩⟩
      · rw [Bc_71]
        have := hXi 0 (by omega)
        rw [show 200 * F + 0 = 200 * F from rfl, show 200 * K + 0 = 200 * K from rfl] at this
        rw [this]
        exact k5
      · intro i hi w
        rw [Bc_71, hXi i hi] at w
        have := k6 i hi w
        rw [eB 44 (by decide) (by decide), eB 46 (by decide) (by decide), ← hAu, hA]
        exact this
      · rw [eB 54 (by decide) (by decide)] at hr
        obtain ⟨r1, r2⟩ := hB.2.2.2.2 hr
        refine ⟨by rw [upd_b (by decide), eB 56 (by decide) (by decide)]; exact r1, ?_⟩
        unfold RSq at r2 ⊢
        rw [eB 44 (by decide) (by decide), eB 46 (by decide) (by decide), eB 72 (by decide) (by decide), eB 56 (by decide) (by decide)]
        exact r2
    · rw [if_neg c]
      exact ⟨bv, f, rfl, fun w => absurd w c⟩
  obtain ⟨bv2, f2, hl, hBQ⟩ := hbd
  have h90 : xc_hear_59 ov go gq tf (nI F) k0 g0 pk n1 sv tv bv f g cv (mi 4) A d = xc_hear_140 ov go gq tf (nI F) k0 g0 pk n1 (upd sv 9 (ma 23 K)) tv bv2 f2 g cv (mi 4) A d 0 := by
    unfold xc_hear_59 xc_hear_90 xc_hear_117
    simp only [bd_eq]
    rw [e3, hdz, if_pos (Int32.le_refl _), if_pos (Int32.le_refl _), k2, upd_b (by decide), upd_b (by decide), e3, e5]
    by_cases c : k0 = 3
    · rw [if_pos c] at hl ⊢
      rw [hl]
    · rw [if_neg c] at hl ⊢
      simp only [Prod.mk.injEq, and_true] at hl
      rw [← hl.1, ← hl.2, if_pos (Int32.le_refl _)]
  rw [h90]
  unfold x_heard_255 at hx
  rw [if_pos (Int32.le_refl _)] at hx
  rcases hd with hd | ⟨hd, hnu⟩
  · rw [hd, if_pos rfl] at hx
    rw [hd]
    have hx := Option.some.inj hx
    have q1 : mi = m := congrArg Prod.fst hx
    have q2 : Bc ma F V X = a := congrArg (fun x => x.2.1) hx
    unfold xc_hear_140
    rw [if_pos (Int32.le_refl _), if_pos rfl]
    simp only [bd_eq]
    rw [upd_a, upd_b (by decide), upd_b (by decide), e3, e4]
    have hfin : FQ F T k0 g0 (upd sv 9 (ma 23 K)) (if ¬ ma 23 K ≤ 0 ∧ ma 45 F = ma 44 F then upd tv 3 (-1) else tv) bv2 cv f2 g m a := by
      rw [← q1, ← q2]
      exact ⟨hsv, hsi, hBQ⟩
    rw [← q1, ← q2] at hfin ⊢
    by_cases c : ma 23 K ≤ 0
    · rw [if_pos c]
      rw [if_neg (show ¬ (¬ ma 23 K ≤ 0 ∧ ma 45 F = ma 44 F) from fun w => w.1 c)] at hfin
      exact ⟨_, _, _, _, _, _, _, _, _, _, rfl, hfin, hRB, hSB⟩
    · rw [if_neg c]
      by_cases c2 : ma 45 F = ma 44 F
      · rw [if_pos c2]
        rw [if_pos (show ¬ ma 23 K ≤ 0 ∧ ma 45 F = ma 44 F from ⟨c, c2⟩)] at hfin
        exact ⟨_, _, _, _, _, _, _, _, _, _, rfl, hfin, hRB, hSB⟩
      · rw [if_neg c2]
        rw [if_neg (show ¬ (¬ ma 23 K ≤ 0 ∧ ma 45 F = ma 44 F) from fun w => c2 w.2)] at hfin
        exact ⟨_, _, _, _, _, _, _, _, _, _, rfl, hfin, hRB, hSB⟩
  · rw [hd, if_neg (show ¬ (1 : Int32) = 0 by decide)] at hx
    rw [hd]
    have nc : ¬ (¬ ma 23 K ≤ 0 ∧ ma 45 F = ma 44 F) := fun w => by
      have := congrArg Int32.toInt w.2
      omega
    rw [if_neg nc] at hsv
    have hFB : FQ F T k0 g0 (upd sv 9 (ma 23 K)) tv bv2 cv f2 g mi (Bc ma F V X) := ⟨hsv, hsi, hBQ⟩
    obtain ⟨m', a', sv2, tv2, bv3, cv2, g2, ov2, tf2, go2, gq2, x1, x2, x3, x4, x5⟩ := dup_pair hF (pk := pk) (n1 := n1) (i4 := A) (i6 := 0) hFB hRB (by unfold NB; rw [eB 44 (by decide) (by decide), eB 46 (by decide) (by decide)]; exact ⟨n1', n2', n3', n4'⟩) (MB_told hMB).1 (MB_told hMB).2 (MB_room hMB).1 (MB_room hMB).2 (by rw [eB 44 (by decide) (by decide), eB 45 (by decide) (by decide)]; exact hnu) (Int32.le_refl _)
    rw [x1, bc_eq] at hx
    have hx := Option.some.inj hx
    have q1 : m' = m := congrArg Prod.fst hx
    have q2 : a' = a := congrArg (fun x => x.2.1) hx
    subst q1 q2
    rw [x2]
    exact ⟨_, _, _, _, _, _, _, _, _, _, rfl, x3, x4, SFR_trans hSB x5⟩

theorem snd_ite {α β : Type} {c : Prop} [Decidable c] (a b : α × β) : (if c then a else b).2 = if c then a.2 else b.2 := by
  by_cases h : c
  · rw [if_pos h, if_pos h]
  · rw [if_neg h, if_neg h]
/-- what a sender tells -/
theorem stell_eq {F : Nat} (hF : F < 4) {n : Nat} {T : Int} {n0 k0 g0 q : Int32} {sv tv bv cv : Nat → Int32} {f g : Nat → Int64} {mi : Nat → Int32} {a : Nat → Nat → Int32} (h : FQ F T k0 g0 sv tv bv cv f g mi a) (hn : NB F a) (h32 : mi 32 = nI n) (hi : isf (nI F) n = 1) : (xc_stell n0 k0 g0 sv tv bv cv f g q).2.2.2.2.2.2 = (x_sender (nI F) q mi a).2.2 := by
  unfold xc_stell xc_tellMore x_sender
  rw [isFlow_eq h32]
  simp only [bd_eq, bc_eq, xc_out_eq (n0 := n0) h hn, x_out_eq hF hn, hi, nI_clamp (show F < 2 ^ 31 by omega)]
  rw [if_neg (show ¬ (1 : Int32) = 0 by decide)]
  simp only [snd_ite]
  rw [show sv 3 = a 44 F from SQ_s3 h.1, show sv 4 = a 45 F from SQ_s4 h.1, show sv 5 = a 46 F from SQ_s5 h.1, show sv 6 = a 47 F from SQ_s6 h.1, show sv 8 = a 48 F from SQ_s8 h.1, show tv 0 = a 49 F from SQ_t0 h.1, show tv 1 = a 50 F from SQ_t1 h.1, show tv 2 = a 51 F from SQ_t2 h.1, show sv 10 = a 53 F from SQ_s10 h.1, show sv 11 = a 54 F from SQ_s11 h.1, show sv 13 = a 57 F from SQ_s13 h.1, show sv 14 = a 58 F from SQ_s14 h.1, show sv 15 = a 59 F from SQ_s15 h.1, show sv 9 = a 60 F from SQ_s9 h.1, show tv 3 = a 61 F from SQ_t3 h.1, show sv 16 = a 62 F from SQ_s16 h.1, show cv 0 = a 63 F from SQ_c0 h.1, show cv 1 = a 64 F from SQ_c1 h.1]
theorem ans_sender {n : Nat} {FX : Nat → Nat → Int32} {nw a1 a2 : Int32} {ov tf : Nat → Int32} {FV : FVt} {FJ : FJt} {go : Option S4} {gq : List S3} {gw : List S4} {ga : List A6} {mi : Nat → Int32} {ma : Nat → Nat → Int32} (h : RLq n FX nw ov tf FV FJ go gq gw ga mi ma) (hI : MB mi ma) : (xc_sender n FX FV FJ a1 a2).2.2 = (x_sender a1 a2 mi ma).2.2 := by
  have h32 := RL_tick h
  by_cases c : isf a1 n = 0
  · unfold xc_sender x_sender
    rw [isFlow_eq h32.1]
    simp only [bd_eq, bc_eq]
    rw [if_pos c, if_pos c]
  · obtain ⟨F, hF, rfl⟩ := isf_F h32.2 c
    have hn := RL_NB h hI hF
    obtain ⟨GA, GW, h1, h2, h3, h4, h5⟩ := h
    obtain ⟨q1, q2, q3⟩ := h4.2.1 F hF
    rw [← stell_eq (n0 := FX F 0) (show F < 4 by omega) q2 hn h32.1 (isf_1 hF h32.2)]
    unfold xc_sender
    simp only [bd_eq]
    rw [if_neg c, nI_clamp (show F < 2 ^ 31 by omega)]
theorem ans_receiver {n : Nat} {FX : Nat → Nat → Int32} {nw a1 a2 : Int32} {ov tf : Nat → Int32} {FV : FVt} {FJ : FJt} {go : Option S4} {gq : List S3} {gw : List S4} {ga : List A6} {mi : Nat → Int32} {ma : Nat → Nat → Int32} (h : RLq n FX nw ov tf FV FJ go gq gw ga mi ma) : (xc_receiver n FX FV FJ a1 a2).2.2 = (x_receiver a1 a2 mi ma).2.2 := by
  have h32 := RL_tick h
  unfold xc_receiver x_receiver xc_rtell
  rw [isFlow_eq h32.1]
  simp only [bd_eq, bc_eq]
  by_cases c : isf a1 n = 0
  · rw [if_pos c, if_pos c]
  · rw [if_neg c, if_neg c]
    obtain ⟨F, hF, rfl⟩ := isf_F h32.2 c
    obtain ⟨GA, GW, h1, h2, h3, h4, h5⟩ := h
    obtain ⟨q1, q2, r1, r2, r3, r4, r5, r6, r7, r8, r9⟩ := h4.2.1 F hF
    simp only [x_keptMany_eq (show F < 4 by omega), nI_clamp (show F < 2 ^ 31 by omega), bc_eq, snd_ite]
    rw [r2, r3, r4, r5, r6, r7, r8]
theorem ans_most {n : Nat} {FX : Nat → Nat → Int32} {nw a1 : Int32} {ov tf : Nat → Int32} {FV : FVt} {FJ : FJt} {go : Option S4} {gq : List S3} {gw : List S4} {ga : List A6} {mi : Nat → Int32} {ma : Nat → Nat → Int32} (h : RLq n FX nw ov tf FV FJ go gq gw ga mi ma) : (xc_most n FX FV FJ a1).2.2 = (x_most a1 mi ma).2.2 := by
  have h32 := RL_tick h
  unfold xc_most x_most
  rw [isFlow_eq h32.1]
  simp only [bd_eq, bc_eq]
  by_cases c : isf a1 n = 0
  · rw [if_pos c, if_pos c]
  · rw [if_neg c, if_neg c]
    obtain ⟨F, hF, rfl⟩ := isf_F h32.2 c
    obtain ⟨GA, GW, h1, h2, h3, h4, h5⟩ := h
    obtain ⟨q1, q2, q3⟩ := h4.2.1 F hF
    rw [nI_clamp (show F < 2 ^ 31 by omega)]
    exact SQ_s7 q2.1
theorem kept_go {F : Nat} (hF : F < 4) {n0 w0 n1 : Int32} {rv : Nat → Int32} {kf : Nat → Int64} {mi : Nat → Int32} {ma : Nat → Nat → Int32} {N : Nat} (h2 : rv 2 = nI N) (hN : N ≤ 1000001) (hk : ∀ i, i < 200 → (bt4 kf (N + i) = true ↔ ¬ ma 36 (200 * F + i) = 0)) (h34 : ma 34 F = nI N) : ∀ (d i c fu fv : Nat) (i2 : Int32), i + d = 200 → c ≤ i → d < fu → d < fv → i2.toInt = n1.toInt - c → 0 ≤ i2.toInt → (xc_leastKept_7 n0 w0 n1 fv rv kf n1 i2 (nI (N + i))).2.2 = (x_kept_19 (nI F) n1 fu mi ma (nI c) (nI i)).2.2 := by
  intro d
  induction d with
  | zero =>
    intro i c fu fv i2 hi hc hu hv h1 h0
    obtain ⟨fu, rfl⟩ : ∃ k, fu = k + 1 := ⟨fu - 1, by omega⟩
    obtain ⟨fv, rfl⟩ : ∃ k, fv = k + 1 := ⟨fv - 1, by omega⟩
    have ei : i = 200 := by omega
    subst ei
    rw [xc_leastKept_7, x_kept_19]
    simp only [bd_eq]
    rw [if_neg (show ¬ i2 < 0 from fun w => by
      have := Int32.lt_iff_toInt_lt.mp w
      rw [show (0 : Int32).toInt = 0 by decide] at this
      omega), h2, show (200 : Int32) = nI 200 by decide, nI_add, if_pos (Int32.le_refl _), if_pos (Int32.le_refl _)]
  | succ d ih =>
    intro i c fu fv i2 hi hc hu hv h1 h0
    obtain ⟨fu, rfl⟩ : ∃ k, fu = k + 1 := ⟨fu - 1, by omega⟩
    obtain ⟨fv, rfl⟩ : ∃ k, fv = k + 1 := ⟨fv - 1, by omega⟩
    rw [xc_leastKept_7, x_kept_19]
    unfold xc_leastKept_43
    simp only [bd_eq]
    have ei : (nI i).toInt = i := nI_toInt (by omega)
    rw [if_neg (show ¬ i2 < 0 from fun w => by
      have := Int32.lt_iff_toInt_lt.mp w
      rw [show (0 : Int32).toInt = 0 by decide] at this
      omega), h2, show (200 : Int32) = nI 200 by decide, nI_add, if_neg (show ¬ nI (N + 200) ≤ nI (N + i) from fun w => by
      have := (nIle (by omega) (by omega)).mp w
      omega), if_neg (show ¬ nI 200 ≤ nI i from fun w => by
      have := (nIle (by omega) (by omega)).mp w
      omega), xc_has_eq (show N + i < 2 ^ 31 by omega), show nI 200 * nI F = nI (200 * F) from mul200 hF, nI_add, nI_clamp (show 200 * F + i < 2 ^ 31 by omega), nI_clamp (show F < 2 ^ 31 by omega), nI_1, nI_1]
    by_cases m : ma 36 (200 * F + i) = 0
    · have hb : ¬ bt4 kf (N + i) = true := fun w => (hk i (by omega)).mp w m
      rw [if_pos m]
      simp only [if_neg hb]
      rw [if_pos trivial]
      exact ih (i + 1) c fu fv i2 (by omega) (by omega) (by omega) (by omega) h1 h0
    · have hb : bt4 kf (N + i) = true := (hk i (by omega)).mpr m
      rw [if_neg m]
      simp only [if_pos hb]
      rw [if_neg (show ¬ (1 : Int32) = 0 by decide)]
      have ec : (nI c).toInt = c := nI_toInt (by omega)
      by_cases e : i2 = 0
      · have e0 : i2.toInt = 0 := by rw [e]; decide
        rw [if_pos e, if_pos (show nI c = n1 from Int32.toInt_inj.mp (by omega)), h34, nI_add]
      · have e0 : i2.toInt ≠ 0 := fun w => e (Int32.toInt_inj.mp (by rw [w]; decide))
        rw [if_neg e, if_neg (show ¬ nI c = n1 from fun w => by
          have := congrArg Int32.toInt w
          omega), nI_1]
        have e1 : (i2 + -1).toInt = i2.toInt - 1 := by
          rw [ti_add (x := i2 + -1) rfl (by rw [show (-1 : Int32).toInt = -1 by decide]; omega) (by rw [show (-1 : Int32).toInt = -1 by decide]; have := i2.toInt_lt; omega), show (-1 : Int32).toInt = -1 by decide]
          omega
        obtain ⟨j2, hj⟩ : ∃ y, y = i2 + -1 := ⟨_, rfl⟩
        rw [← hj] at e1 ⊢
        exact ih (i + 1) (c + 1) fu fv j2 (by omega) (by omega) (by omega) (by omega) (by omega) (by omega)
theorem ans_kept {n : Nat} {FX : Nat → Nat → Int32} {nw a1 a2 : Int32} {ov tf : Nat → Int32} {FV : FVt} {FJ : FJt} {go : Option S4} {gq : List S3} {gw : List S4} {ga : List A6} {mi : Nat → Int32} {ma : Nat → Nat → Int32} (h : RLq n FX nw ov tf FV FJ go gq gw ga mi ma) (hI : MB mi ma) : (xc_kept n FX FV FJ a1 a2).2.2 = (x_kept a1 a2 mi ma).2.2 := by
  have h32 := RL_tick h
  unfold xc_kept x_kept xc_leastKept
  rw [isFlow_eq h32.1]
  simp only [bd_eq, bc_eq]
  by_cases c : isf a1 n = 0
  · rw [if_pos c, if_pos c]
  · rw [if_neg c, if_neg c]
    obtain ⟨F, hF, rfl⟩ := isf_F h32.2 c
    obtain ⟨GA, GW, h1, h2, h3, h4, h5⟩ := h
    obtain ⟨q1, q2, r1, r2, r3, r4, r5, r6, r7, r8, r9, r10, r11⟩ := h4.2.1 F hF
    have hw := MB_wanted hI F (by omega)
    obtain ⟨N, hN⟩ : ∃ N, N = (ma 34 F).toInt.toNat := ⟨_, rfl⟩
    have h34 : ma 34 F = nI N := by rw [hN]; exact nIof hw.1
    rw [nI_clamp (show F < 2 ^ 31 by omega), r2, h34]
    have ef : ((nI N + 200).toInt - (nI N).toInt).toNat + 1 = 201 := by
      rw [show (200 : Int32) = nI 200 by decide, nI_add, nI_toInt (by omega), nI_toInt (by omega)]
      omega
    rw [ef]
    have g1 := r10.1
    rw [← hN] at g1
    by_cases d : 0 ≤ a2
    · have di := Int32.le_iff_toInt_le.mp d
      rw [show (0 : Int32).toInt = 0 by decide] at di
      rw [if_pos d]
      have := kept_go (show F < 4 by omega) (n0 := FX F 0) (w0 := FX F 3) (n1 := a2) (mi := mi) (r2.trans h34) (by omega) g1 h34 200 0 0 201 201 a2 (by omega) (by omega) (by omega) (by omega) (by omega) di
      rw [show nI 0 = (0 : Int32) by decide, Nat.add_zero] at this
      exact this
    · rw [if_neg d, xc_leastKept_7, if_pos (Int32.not_le.mp d)]

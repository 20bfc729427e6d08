theorem lose_step {n i : Int32} {fu : Nat} {mi : Nat → Int32} {ma : Nat → Nat → Int32} : x_lose_12 n (fu + 1) mi ma i = if mi 30 ≤ i then (if mi 30 = 64 then (mi, ma, 0) else (upd mi 30 (mi 30 + 1), va_up ma 31 (upd (ma 31) (mi 30).toNatClampNeg n), 1)) else if ma 31 i.toNatClampNeg = n then (mi, ma, 1) else x_lose_12 n fu mi ma (i + 1) := by
  rw [x_lose_12]
  simp only [bd_eq]
theorem lose_place {n : Int32} {mi ov tf : Nat → Int32} {ma : Nat → Nat → Int32} (h10 : ov 10 = mi 30) (ht : ∀ i, i < 64 → tf i = ma 31 i) (hle : (mi 30).toInt ≤ 64) : ∀ (fu j : Nat), (mi 30).toInt < (j : Int) + fu → (j : Int) ≤ (mi 30).toInt → x_lose_12 n fu mi ma (nI j) = if xc_place_2 ov tf n fu n (nI j) = -1 then (if mi 30 = 64 then (mi, ma, 0) else (upd mi 30 (mi 30 + 1), va_up ma 31 (upd (ma 31) (mi 30).toNatClampNeg n), 1)) else (mi, ma, 1)
  | 0, j, h, hj => by
    exfalso
    omega
  | fu + 1, j, h, hj => by
    rw [lose_step, place_step, h10]
    have ej : (nI j).toInt = j := nI_toInt (by omega)
    by_cases h1 : mi 30 ≤ nI j
    · rw [if_pos h1, if_pos h1, if_pos rfl]
    · have h1' : (j : Int) < (mi 30).toInt := by
        have := Int32.lt_iff_toInt_lt.mp (Int32.not_le.mp h1)
        rw [ej] at this
        exact this
      have h64 : ¬ (64 : Int32) ≤ nI j := by
        intro w
        have := Int32.le_iff_toInt_le.mp w
        rw [ej, show (64 : Int32).toInt = 64 by decide] at this
        omega
      have hjn : j < 64 := by omega
      rw [if_neg h1, if_neg h1, if_neg h64, nI_clamp (show j < 2 ^ 31 by omega), ht j hjn]
      by_cases h2 : ma 31 j = n
      · rw [if_pos h2, if_pos h2]
        have hne : ¬ nI j = -1 := by
          intro w
          have := congrArg Int32.toInt w
          rw [ej, show (-1 : Int32).toInt = -1 by decide] at this
          omega
        rw [if_neg hne]
      · rw [if_neg h2, if_neg h2, nI_1]
        exact lose_place h10 ht hle fu (j + 1) (by omega) (by omega)
/-- lose -/
theorem RLq_lose {n : Nat} {FX : Nat → Nat → Int32} {nw n1 : Int32} {ov tf : Nat → Int32} {FV : FVt} {FJ : FJt} {go : Option S4} {gq : List S3} {gw : List S4} {ga : List A6} {mi : Nat → Int32} {ma : Nat → Nat → Int32} (h : RLq n FX nw ov tf FV FJ go gq gw ga mi ma) (hI : MB mi ma) : RLq n FX nw (xc_lose ov tf n1).1 (xc_lose ov tf n1).2.1 FV FJ go gq gw ga (x_lose n1 mi ma).1 (x_lose n1 mi ma).2.1 := by
  have ht := MB_told hI
  have hh := h
  obtain ⟨GA, GW, h1, h2, h3, h4, h5⟩ := h
  obtain ⟨b1, b4, ⟨⟨r1, r2, r3, r4⟩, r5, r6⟩, b6⟩ := h4
  obtain ⟨s10, s11, s12, s13, s14⟩ := r2
  unfold xc_lose xc_tellLost2 x_lose
  simp only [bd_eq]
  by_cases c1 : n1 < ov 11
  · rw [if_pos c1, if_neg (fun w => by
      have := Int32.lt_iff_toInt_lt.mp c1
      have := Int32.le_iff_toInt_le.mp w
      rw [s11] at *
      omega)]
    exact hh
  rw [if_neg c1, if_pos (show mi 26 ≤ n1 by
    rw [← s11]
    exact Int32.not_lt.mp c1)]
  have hp := lose_place (n := n1) (ov := ov) (tf := tf) s10 r3 ht.2 65 0 (by omega) (by omega)
  rw [show nI 0 = (0 : Int32) by decide, ← xc_place_eq] at hp
  rw [hp]
  by_cases c2 : ov 10 < 64
  · have c2i := Int32.lt_iff_toInt_lt.mp c2
    rw [s10, show (64 : Int32).toInt = 64 by decide] at c2i
    have c3 : ¬ mi 30 = 64 := fun w => by
      rw [w, show (64 : Int32).toInt = 64 by decide] at c2i
      omega
    rw [if_pos c2, if_neg c3]
    by_cases c4 : xc_place ov tf n1 = -1
    · rw [if_pos c4, if_pos c4]
      show RLq n FX nw (upd ov 10 (ov 10 + 1)) (upd tf (ov 10).toNatClampNeg n1) FV FJ go gq gw ga (upd mi 30 (mi 30 + 1)) (va_up ma 31 (upd (ma 31) (mi 30).toNatClampNeg n1))
      have km : ∀ k, k ≠ 30 → upd mi 30 (mi 30 + 1) k = mi k := fun k hk => upd_b hk
      have ka : ∀ k, k ≠ 31 → va_up ma 31 (upd (ma 31) (mi 30).toNatClampNeg n1) k = ma k := fun k hk => va_up_ne _ _ hk
      have e4 := km 4 (by decide)
      refine ⟨GA, GW, by rw [e4]; exact h1, h2, h3, ?_, WQ_keep h5 (km 10 (by decide)) (km 11 (by decide)) (fun k hk => ka k (fun e => by rw [e] at hk; revert hk; decide)) (fun f => by rw [ka 46 (by decide)]; exact Int.le_refl _)⟩
      rw [e4]
      refine ⟨⟨b1.1, by rw [km 32 (by decide)]; exact b1.2.1, ZR_all b1.2.2 (fun k k1 k2 => ka k (by omega))⟩, fun j hj => ?_, ⟨⟨?_, ?_, ?_, ?_⟩, r5, ?_⟩, AQ_keep b6 (km 17 (by decide)) (km 18 (by decide)) (fun k hk => ka k (fun e => by rw [e] at hk; revert hk; decide)) (fun f => by rw [ka 46 (by decide)]; exact Int.le_refl _)⟩
      · obtain ⟨q1, q2, q3⟩ := b4 j hj
        exact ⟨q1, FQ_same q2 e4 (fun k k1 k2 => by rw [ka k (by omega)]) (fun _ _ => by rw [ka 71 (by decide)]) (fun _ _ => by rw [ka 72 (by decide)]), RVq_keep q3 (fun k hk => by rw [ka k (fun e => by rw [e] at hk; revert hk; decide)]) (fun i _ => by rw [ka 36 (by decide)]) (by rw [ka 46 (by decide)]; exact Int.le_refl _)⟩
      · rw [km 0 (by decide), km 1 (by decide), km 2 (by decide), km 3 (by decide), upd_b (by decide), upd_b (by decide), upd_b (by decide), upd_b (by decide)]
        exact r1
      · rw [km 26 (by decide), km 27 (by decide), km 28 (by decide), km 29 (by decide), upd_a, upd_a, upd_b (by decide), upd_b (by decide), upd_b (by decide), upd_b (by decide)]
        exact ⟨by rw [s10], s11, s12, s13, s14⟩
      · intro i hi
        rw [va_up_self, s10]
        by_cases e : i = (mi 30).toNatClampNeg
        · rw [← e, upd_a, upd_a]
        · rw [upd_b e, upd_b e]
          exact r3 i hi
      · unfold LQ at r4 ⊢
        rw [km 6 (by decide), km 5 (by decide), ka 7 (by decide), ka 8 (by decide), ka 9 (by decide)]
        exact r4
      · unfold NL at r6 ⊢
        rw [ka 46 (by decide)]
        exact r6
    · rw [if_neg c4, if_neg c4]
      exact hh
  · rw [if_neg c2]
    have c3 : mi 30 = 64 := by
      apply Int32.toInt_inj.mp
      have : ¬ (ov 10).toInt < (64 : Int32).toInt := fun w => c2 (Int32.lt_iff_toInt_lt.mpr w)
      rw [s10, show (64 : Int32).toInt = 64 by decide] at this
      rw [show (64 : Int32).toInt = 64 by decide]
      omega
    rw [if_pos c3]
    by_cases c4 : xc_place ov tf n1 = -1
    · rw [if_pos c4]
      exact hh
    · rw [if_neg c4]
      exact hh
theorem SI_but {T : Int} {t : Int32} {u u2 : Nat → Int32} (h : SI T t u) (e : ∀ k, 42 ≤ k → k ≤ 70 → k ≠ 43 → u2 k = u k) : SI T t u2 := by
  unfold SI at h ⊢
  rw [e 50 (by decide) (by decide) (by decide), e 52 (by decide) (by decide) (by decide), e 69 (by decide) (by decide) (by decide), e 70 (by decide) (by decide) (by decide), e 67 (by decide) (by decide) (by decide), e 64 (by decide) (by decide) (by decide), e 49 (by decide) (by decide) (by decide), e 44 (by decide) (by decide) (by decide), e 45 (by decide) (by decide) (by decide), e 46 (by decide) (by decide) (by decide), e 55 (by decide) (by decide) (by decide), e 42 (by decide) (by decide) (by decide), e 54 (by decide) (by decide) (by decide), e 56 (by decide) (by decide) (by decide)]
  exact h
/-- a goal is set anew -/
theorem goal_bench {n J : Nat} {FX : Nat → Nat → Int32} {T : Int} {ov tf : Nat → Int32} {FV : FVt} {FJ : FJt} {go : Option S4} {gq : List S3} {GA : List A6} {mi : Nat → Int32} {ma : Nat → Nat → Int32} {v : Int32} (h : BRq n FX T ov tf FV FJ go gq GA mi ma) (hJ : J < n) : BRq n (va_up FX J (upd (FX J) 2 v)) T ov tf FV FJ go gq GA mi (va_up ma 43 (upd (ma 43) J v)) := by
  obtain ⟨b1, b4, b5, b6⟩ := h
  obtain ⟨a, ha⟩ : ∃ y, y = va_up ma 43 (upd (ma 43) J v) := ⟨_, rfl⟩
  have ka : ∀ k, k ≠ 43 → a k = ma k := fun k hk => by rw [ha]; exact va_up_ne _ _ hk
  have k43 : a 43 J = v := by rw [ha, va_up_self, upd_a]
  have kne : ∀ j, j ≠ J → a 43 j = ma 43 j := fun j hj => by rw [ha, va_up_self, upd_b hj]
  rw [← ha]
  refine ⟨⟨b1.1, b1.2.1, ZR_keep b1.2.2 (fun k j q1 q3 q4 q5 => ?_) (fun i _ => by rw [ka 36 (by decide)]) (fun i _ => by rw [ka 71 (by decide)])⟩, fun j hj => ?_, RR_keep b5 (fun _ _ => rfl) (fun k hk => ka k (fun e => by rw [e] at hk; revert hk; decide)) (fun i => by rw [ka 46 (by decide)]; exact Int.le_refl _), AQ_keep b6 rfl rfl (fun k hk => ka k (fun e => by rw [e] at hk; revert hk; decide)) (fun f => by rw [ka 46 (by decide)]; exact Int.le_refl _)⟩
  · by_cases e : k = 43
    · rw [e]
      exact kne j (by omega)
    · rw [ka k e]
  · obtain ⟨q1, q2, q3⟩ := b4 j hj
    have hV : ∀ w, w = FX j 3 → RVq j w (FV j 4) (FJ j 2) a := fun w hw => by
      rw [hw]
      exact RVq_keep q3 (fun k hk => by rw [ka k (fun e => by rw [e] at hk; revert hk; decide)]) (fun i _ => by rw [ka 36 (by decide)]) (by rw [ka 46 (by decide)]; exact Int.le_refl _)
    by_cases e : j = J
    · subst e
      rw [va_up_self]
      refine ⟨by rw [upd_b (by decide)]; exact q1, ?_, hV _ (upd_b (by decide))⟩
      rw [upd_b (show 1 ≠ 2 by decide), upd_a]
      obtain ⟨f1, f2, f3⟩ := q2
      refine ⟨?_, SI_but f2 (fun k k1 k2 k3 => by unfold col; rw [ka k k3]), fun k3 => ?_⟩
      · unfold SQ col at f1 ⊢
        rw [k43, ka 42 (by decide), ka 44 (by decide), ka 45 (by decide), ka 46 (by decide), ka 47 (by decide), ka 68 (by decide), ka 48 (by decide), ka 60 (by decide), ka 53 (by decide), ka 54 (by decide), ka 55 (by decide), ka 57 (by decide), ka 58 (by decide), ka 59 (by decide), ka 62 (by decide), ka 49 (by decide), ka 50 (by decide), ka 51 (by decide), ka 61 (by decide), ka 69 (by decide), ka 70 (by decide), ka 63 (by decide), ka 64 (by decide), ka 67 (by decide), ka 65 (by decide), ka 66 (by decide)]
        exact ⟨f1.1, rfl, f1.2.2⟩
      · have := f3 k3
        unfold BQ RSq at this ⊢
        rw [ka 44 (by decide), ka 46 (by decide), ka 54 (by decide), ka 56 (by decide), ka 71 (by decide), ka 72 (by decide)]
        exact this
    · rw [va_up_ne _ _ e]
      refine ⟨q1, FQ_same q2 rfl (fun k k1 k2 => ?_) (fun _ _ => by rw [ka 71 (by decide)]) (fun _ _ => by rw [ka 72 (by decide)]), hV _ rfl⟩
      by_cases e2 : k = 43
      · rw [e2]
        exact kne j e
      · rw [ka k e2]
theorem vup_same {ma : Nat → Nat → Int32} {k J : Nat} : va_up ma k (upd (ma k) J (ma k J)) = ma := by
  funext i
  by_cases e : i = k
  · subst e
    rw [va_up_self]
    funext l
    by_cases e2 : l = J
    · subst e2
      rw [upd_a]
    · rw [upd_b e2]
  · rw [va_up_ne _ _ e]
/-- send -/
theorem RLq_send {n : Nat} {FX FX2 : Nat → Nat → Int32} {nw a1 a2 r : Int32} {ov tf : Nat → Int32} {FV : FVt} {FJ : FJt} {go : Option S4} {gq : List S3} {gw : List S4} {ga : List A6} {mi : Nat → Int32} {ma : Nat → Nat → Int32} (h : RLq n FX nw ov tf FV FJ go gq gw ga mi ma) (hI : MB mi ma) (hs : SND n FX a1 a2 r FX2) : RLq n FX2 nw ov tf (xc_send n FX FV FJ a1 a2).1 (xc_send n FX FV FJ a1 a2).2 go gq gw ga (x_send a1 a2 mi ma).1 (x_send a1 a2 mi ma).2.1 := by
  have h32 := RL_tick h
  unfold xc_send x_send
  rw [isFlow_eq h32.1]
  simp only [bd_eq, bc_eq]
  rcases hs with ⟨_, rfl, c⟩ | ⟨J, hJ, rfl, c2, _, rfl⟩
  · by_cases d : isf a1 n = 0
    · rw [if_pos d, if_pos d]
      exact h
    · have c2 : wi a2 1 100000 = 0 := c.resolve_left d
      rw [if_neg d, if_neg d, if_pos c2, if_pos c2]
      exact h
  · have c1 : ¬ isf (nI J) n = 0 := by rw [isf_1 hJ h32.2]; decide
    rw [if_neg c1, if_neg c1, if_neg c2, if_neg c2, nI_clamp (show J < 2 ^ 31 by omega)]
    obtain ⟨GA, GW, h1, h2, h3, h4, h5⟩ := h
    have e43 : FX J 2 = ma 43 J := SQ_g (h4.2.1 J hJ).2.1.1
    have hb := MB_all hI J (by omega)
    have hw := wi_in c2
    have w1 := Int32.le_iff_toInt_le.mp hw.1
    have w2 := Int32.le_iff_toInt_le.mp hw.2
    rw [show (1 : Int32).toInt = 1 by decide] at w1
    rw [show (100000 : Int32).toInt = 100000 by decide] at w2
    have s1 : (ma 43 J + a2).toInt = (ma 43 J).toInt + a2.toInt := ti_add rfl (by omega) (by omega)
    have s2 : ((1000000 : Int32) - a2).toInt = 1000000 - a2.toInt := by
      rw [ti_sub (x := (1000000 : Int32) - a2) rfl (by rw [show (1000000 : Int32).toInt = 1000000 by decide]; omega) (by rw [show (1000000 : Int32).toInt = 1000000 by decide]; omega), show (1000000 : Int32).toInt = 1000000 by decide]
    have key : ∀ v a, v = ag2 (FX J 2) a2 → a = va_up ma 43 (upd (ma 43) J v) → RLq n (va_up FX J (upd (FX J) 2 (ag2 (FX J 2) a2))) nw ov tf (va_up FV J (fpk (FV J 0) (FV J 1) (FV J 2) (FV J 3) (FV J 4))) (va_up FJ J (fpj (FJ J 0) (FJ J 1) (FJ J 2))) go gq gw ga mi a := fun v a hv ha => by
      have ka : ∀ k, k ≠ 43 → a k = ma k := fun k hk => by rw [ha]; exact va_up_ne _ _ hk
      refine ⟨GA, GW, h1, h2, h3, ?_, WQ_keep h5 rfl rfl (fun k hk => ka k (fun e => by rw [e] at hk; revert hk; decide)) (fun f => by rw [ka 46 (by decide)]; exact Int.le_refl _)⟩
      rw [ha, hv]
      exact goal_bench (BRq_pkd h4 PKD_pack) hJ
    by_cases c3 : ma 43 J + a2 ≤ 1000000
    · have c3i := Int32.le_iff_toInt_le.mp c3
      rw [s1, show (1000000 : Int32).toInt = 1000000 by decide] at c3i
      rw [if_pos c3]
      refine key _ _ ?_ rfl
      unfold ag2
      rw [e43, if_pos (Int32.le_iff_toInt_le.mpr (by omega))]
    · rw [if_neg c3]
      refine key (ma 43 J) ma ?_ vup_same.symm
      unfold ag2
      rw [e43, if_neg (fun w => c3 (Int32.le_iff_toInt_le.mpr (by
        have := Int32.le_iff_toInt_le.mp w
        rw [s1, show (1000000 : Int32).toInt = 1000000 by decide]
        omega)))]

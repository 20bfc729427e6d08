theorem bt4_zJ {m : Nat} : bt4 zJ m = false := by
  unfold bt4 zJ
  show ((0 : Int64).toBitVec).getLsbD (m % 64) = false
  rw [show (0 : Int64).toBitVec = 0#64 from rfl]
  exact BitVec.getLsbD_zero
theorem cntK_nil {A : Nat → Int32} : ∀ (k : Nat), (∀ i, i < k → A i = 0) → cntK A k = 0
  | 0, _ => rfl
  | k + 1, h => by
    rw [cntK, cntK_nil k (fun i hi => h i (by omega)), if_pos (h k (by omega))]
/-- the numbers that a new flow gets -/
def FLF (n : Nat) (kk pb : Int32) (ma a : Nat → Nat → Int32) : Prop := (∀ k, k ∉ ([33, 35, 40, 42, 47, 68, 48, 49, 60, 61, 67, 69, 56] : List Nat) → a k = ma k) ∧ (∀ k i, i ≠ n → a k i = ma k i) ∧ a 33 n = vp_nar .boolean pb ∧ a 35 n = 40 ∧ a 40 n = -1 ∧ a 42 n = kk ∧ a 47 n = 2048 ∧ a 68 n = 2048 ∧ a 48 n = 1048576 ∧ a 49 n = 1000 ∧ a 60 n = 40 ∧ a 61 n = -1 ∧ a 67 n = -1 ∧ a 69 n = -1 ∧ a 56 n = -1
theorem flow_facts {n : Nat} {kk pb : Int32} {mi m : Nat → Int32} {ma a : Nat → Nat → Int32} {r : Int32} (hn : n < 4) (h32 : mi 32 = nI n) (hw : ¬ wi kk 0 3 = 0) (hx : x_flow kk pb mi ma = (m, a, r)) : m = upd mi 32 (nI (n + 1)) ∧ FLF n kk pb ma a := by
  unfold x_flow at hx
  obtain ⟨v1, e1, hx⟩ := bd_ex hx
  rw [h32] at e1
  rw [if_neg (show ¬ v1 = 4 by
    rw [e1]
    intro w
    have := congrArg Int32.toInt w
    rw [nI_toInt (by omega), show (4 : Int32).toInt = 4 by decide] at this
    omega)] at hx
  obtain ⟨v2, e2, hx⟩ := bd_ex hx
  rw [if_neg (by rw [e2]; exact hw)] at hx
  obtain ⟨v3, e3, hx⟩ := bd_ex hx
  obtain ⟨v4, e4, hx⟩ := bd_ex hx
  obtain ⟨v5, e5, hx⟩ := bd_ex hx
  obtain ⟨m6, e6, hx⟩ := bd_ex hx
  rw [h32] at e3 e4
  rw [e4, nI_1] at e5
  rw [e5] at e6
  rw [e3, nI_clamp (show n < 2 ^ 31 by omega)] at hx
  obtain ⟨a7, e7, hx⟩ := bd_ex hx
  obtain ⟨a8, e8, hx⟩ := bd_ex hx
  obtain ⟨a9, e9, hx⟩ := bd_ex hx
  obtain ⟨a10, e10, hx⟩ := bd_ex hx
  obtain ⟨a11, e11, hx⟩ := bd_ex hx
  obtain ⟨a12, e12, hx⟩ := bd_ex hx
  obtain ⟨a13, e13, hx⟩ := bd_ex hx
  obtain ⟨a14, e14, hx⟩ := bd_ex hx
  obtain ⟨a15, e15, hx⟩ := bd_ex hx
  obtain ⟨a16, e16, hx⟩ := bd_ex hx
  obtain ⟨a17, e17, hx⟩ := bd_ex hx
  obtain ⟨a18, e18, hx⟩ := bd_ex hx
  obtain ⟨a19, e19, hx⟩ := bd_ex hx
  have y1 : m6 = m := congrArg Prod.fst hx
  have y2 : a19 = a := congrArg (fun x => x.2.1) hx
  subst y1 y2
  refine ⟨e6, fun k hk => ?_, fun k i hi => ?_, ?_, ?_, ?_, ?_, ?_, ?_, ?_, ?_, ?_, ?_, ?_, ?_, ?_⟩
  · rw [e19, va_up_ne _ _ (fun e => hk (by rw [e]; decide)), e18, va_up_ne _ _ (fun e => hk (by rw [e]; decide)), e17, va_up_ne _ _ (fun e => hk (by rw [e]; decide)), e16, va_up_ne _ _ (fun e => hk (by rw [e]; decide)), e15, va_up_ne _ _ (fun e => hk (by rw [e]; decide)), e14, va_up_ne _ _ (fun e => hk (by rw [e]; decide)), e13, va_up_ne _ _ (fun e => hk (by rw [e]; decide)), e12, va_up_ne _ _ (fun e => hk (by rw [e]; decide)), e11, va_up_ne _ _ (fun e => hk (by rw [e]; decide)), e10, va_up_ne _ _ (fun e => hk (by rw [e]; decide)), e9, va_up_ne _ _ (fun e => hk (by rw [e]; decide)), e8, va_up_ne _ _ (fun e => hk (by rw [e]; decide)), e7, va_up_ne _ _ (fun e => hk (by rw [e]; decide))]
  · rw [e19, stp_ne hi, e18, stp_ne hi, e17, stp_ne hi, e16, stp_ne hi, e15, stp_ne hi, e14, stp_ne hi, e13, stp_ne hi, e12, stp_ne hi, e11, stp_ne hi, e10, stp_ne hi, e9, stp_ne hi, e8, stp_ne hi, e7, stp_ne hi]
  · rw [e19, va_up_ne _ _ (by decide), e18, va_up_ne _ _ (by decide), e17, va_up_ne _ _ (by decide), e16, va_up_ne _ _ (by decide), e15, va_up_ne _ _ (by decide), e14, va_up_ne _ _ (by decide), e13, va_up_ne _ _ (by decide), e12, va_up_ne _ _ (by decide), e11, va_up_ne _ _ (by decide), e10, va_up_ne _ _ (by decide), e9, va_up_ne _ _ (by decide), e8, va_up_ne _ _ (by decide), e7, stp_eq]
  · rw [e19, va_up_ne _ _ (by decide), e18, va_up_ne _ _ (by decide), e17, va_up_ne _ _ (by decide), e16, va_up_ne _ _ (by decide), e15, va_up_ne _ _ (by decide), e14, va_up_ne _ _ (by decide), e13, va_up_ne _ _ (by decide), e12, va_up_ne _ _ (by decide), e11, va_up_ne _ _ (by decide), e10, va_up_ne _ _ (by decide), e9, va_up_ne _ _ (by decide), e8, stp_eq]
  · rw [e19, va_up_ne _ _ (by decide), e18, va_up_ne _ _ (by decide), e17, va_up_ne _ _ (by decide), e16, va_up_ne _ _ (by decide), e15, va_up_ne _ _ (by decide), e14, va_up_ne _ _ (by decide), e13, va_up_ne _ _ (by decide), e12, va_up_ne _ _ (by decide), e11, va_up_ne _ _ (by decide), e10, va_up_ne _ _ (by decide), e9, stp_eq]
  · rw [e19, va_up_ne _ _ (by decide), e18, va_up_ne _ _ (by decide), e17, va_up_ne _ _ (by decide), e16, va_up_ne _ _ (by decide), e15, va_up_ne _ _ (by decide), e14, va_up_ne _ _ (by decide), e13, va_up_ne _ _ (by decide), e12, va_up_ne _ _ (by decide), e11, va_up_ne _ _ (by decide), e10, stp_eq]
  · rw [e19, va_up_ne _ _ (by decide), e18, va_up_ne _ _ (by decide), e17, va_up_ne _ _ (by decide), e16, va_up_ne _ _ (by decide), e15, va_up_ne _ _ (by decide), e14, va_up_ne _ _ (by decide), e13, va_up_ne _ _ (by decide), e12, va_up_ne _ _ (by decide), e11, stp_eq]
  · rw [e19, va_up_ne _ _ (by decide), e18, va_up_ne _ _ (by decide), e17, va_up_ne _ _ (by decide), e16, va_up_ne _ _ (by decide), e15, va_up_ne _ _ (by decide), e14, va_up_ne _ _ (by decide), e13, va_up_ne _ _ (by decide), e12, stp_eq]
  · rw [e19, va_up_ne _ _ (by decide), e18, va_up_ne _ _ (by decide), e17, va_up_ne _ _ (by decide), e16, va_up_ne _ _ (by decide), e15, va_up_ne _ _ (by decide), e14, va_up_ne _ _ (by decide), e13, stp_eq]
  · rw [e19, va_up_ne _ _ (by decide), e18, va_up_ne _ _ (by decide), e17, va_up_ne _ _ (by decide), e16, va_up_ne _ _ (by decide), e15, va_up_ne _ _ (by decide), e14, stp_eq]
  · rw [e19, va_up_ne _ _ (by decide), e18, va_up_ne _ _ (by decide), e17, va_up_ne _ _ (by decide), e16, va_up_ne _ _ (by decide), e15, stp_eq]
  · rw [e19, va_up_ne _ _ (by decide), e18, va_up_ne _ _ (by decide), e17, va_up_ne _ _ (by decide), e16, stp_eq]
  · rw [e19, va_up_ne _ _ (by decide), e18, va_up_ne _ _ (by decide), e17, stp_eq]
  · rw [e19, va_up_ne _ _ (by decide), e18, stp_eq]
  · rw [e19, stp_eq]
/-- flow -/
theorem RLq_flow {n ub : Nat} {FX FX2 : Nat → Nat → Int32} {nw a1 a2 r : Int32} {ov tf : Nat → Int32} {FV FV2 : FVt} {FJ FJ2 : FJt} {go : Option S4} {gq : List S3} {gw : List S4} {ga : List A6} {mi : Nat → Int32} {ma : Nat → Nat → Int32} (h : RLq n FX nw ov tf FV FJ go gq gw ga mi ma) (hz : a2 = 0 ∨ a2 = 1) (hs : FLW n a1 r ub) (hx : (∀ j, j < n → FX2 j = FX j ∧ FV2 j = FV j ∧ FJ2 j = FJ j) ∧ (ub = n + 1 → FX2 n = fxN (nI n) a1 ∧ FV2 n = fpk svN tvN bvN cvN (rvN a2) ∧ FJ2 n = fpj zJ zJ zJ)) : RLq ub FX2 nw ov tf FV2 FJ2 go gq gw ga (x_flow a1 a2 mi ma).1 (x_flow a1 a2 mi ma).2.1 := by
  obtain ⟨GA, GW, h1, h2, h3, h4, h5⟩ := h
  have h32 := h4.1.2.1
  have hc := BRq_congr h4 hx.1
  rcases hs with ⟨_, rfl, c⟩ | ⟨_, rfl, hn, hw⟩
  · have hq : x_flow a1 a2 mi ma = (mi, ma, -1) := by
      unfold x_flow
      rw [bd_eq]
      by_cases d : mi 32 = 4
      · rw [if_pos d]
      · rw [if_neg d, bd_eq, if_pos (c.resolve_left (fun w => d (by rw [h32, w]; decide)))]
    rw [hq]
    exact ⟨GA, GW, h1, h2, h3, hc, h5⟩
  · obtain ⟨⟨m, a, r2⟩, hX⟩ : ∃ y, y = x_flow a1 a2 mi ma := ⟨_, rfl⟩
    obtain ⟨hm, hF⟩ := flow_facts hn h32 hw hX.symm
    rw [← hX]
    obtain ⟨ka, kn, w33, w35, w40, w42, w47, w68, w48, w49, w60, w61, w67, w69, w56⟩ := hF
    obtain ⟨x1, x2, x3⟩ := hx.2 rfl
    have km : ∀ k, k ≠ 32 → m k = mi k := fun k hk => by rw [hm, upd_b hk]
    have hZ := h4.1.2.2
    have z0 : ∀ k, 33 ≤ k → k ≤ 70 → k ≠ 36 → k ∉ ([33, 35, 40, 42, 47, 68, 48, 49, 60, 61, 67, 69, 56] : List Nat) → a k n = 0 := fun k k1 k2 k3 k4 => by
      rw [ka k k4]
      exact hZ.1 k n (Nat.le_refl _) (by omega) k1 k2 k3
    have z36 : ∀ i, i < 200 → a 36 (200 * n + i) = 0 := fun i hi => by
      rw [ka 36 (by decide)]
      exact (hZ.2 (200 * n + i) (by omega) (by omega)).1
    have z71 : ∀ i, i < 200 → a 71 (200 * n + i) = 0 := fun i hi => by
      rw [ka 71 (by decide)]
      exact (hZ.2 (200 * n + i) (by omega) (by omega)).2
    have k46 : ∀ f, (ma 46 f).toInt ≤ (a 46 f).toInt := fun f => by rw [ka 46 (by decide)]; exact Int.le_refl _
    have km4 := km 4 (by decide)
    refine ⟨GA, GW, by show nw = m 4; rw [km4]; exact h1, h2, h3, ?_, WQ_keep h5 (km 10 (by decide)) (km 11 (by decide)) (fun k hk => ka k (fun w => by revert hk w; simp only [List.mem_cons, List.not_mem_nil, or_false]; omega)) k46⟩
    show BRq (n + 1) FX2 (m 4).toInt ov tf FV2 FJ2 go gq GA m a
    rw [km4]
    obtain ⟨b1, b4, b5, b6⟩ := hc
    refine ⟨⟨by omega, by rw [hm, upd_a], ⟨fun k j q1 q2 q3 q4 q5 => ?_, fun i q1 q2 => ?_⟩⟩, fun j hj => ?_, RR_keep b5 (fun k hk => km k (fun e => by rw [e] at hk; revert hk; decide)) (fun k hk => ka k (fun w => by revert hk w; simp only [List.mem_cons, List.not_mem_nil, or_false]; omega)) k46, AQ_keep b6 (km 17 (by decide)) (km 18 (by decide)) (fun k hk => ka k (fun w => by revert hk w; simp only [List.mem_cons, List.not_mem_nil, or_false]; omega)) k46⟩
    · rw [kn k j (by omega)]
      exact hZ.1 k j (by omega) q2 q3 q4 q5
    · rw [ka 36 (by decide), ka 71 (by decide)]
      exact hZ.2 i (by omega) q2
    · by_cases e : j = n
      · subst e
        rw [x1, x2, x3]
        have g46 : a 46 j = 0 := z0 46 (by decide) (by decide) (by decide) (by decide)
        have g44 : a 44 j = 0 := z0 44 (by decide) (by decide) (by decide) (by decide)
        have g34 : a 34 j = 0 := z0 34 (by decide) (by decide) (by decide) (by decide)
        have g54 : a 54 j = 0 := z0 54 (by decide) (by decide) (by decide) (by decide)
        refine ⟨rfl, ⟨?_, ?_, fun _ => ?_⟩, ?_⟩
        · show SQ svN tvN cvN a1 0 (col a j)
          unfold SQ col
          rw [w42, w47, w68, w48, w60, w49, w61, w69, w67, g46, g44, g54, z0 43 (by decide) (by decide) (by decide) (by decide), z0 45 (by decide) (by decide) (by decide) (by decide), z0 53 (by decide) (by decide) (by decide) (by decide), z0 55 (by decide) (by decide) (by decide) (by decide), z0 57 (by decide) (by decide) (by decide) (by decide), z0 58 (by decide) (by decide) (by decide) (by decide), z0 59 (by decide) (by decide) (by decide) (by decide), z0 62 (by decide) (by decide) (by decide) (by decide), z0 50 (by decide) (by decide) (by decide) (by decide), z0 51 (by decide) (by decide) (by decide) (by decide), z0 70 (by decide) (by decide) (by decide) (by decide), z0 63 (by decide) (by decide) (by decide) (by decide), z0 64 (by decide) (by decide) (by decide) (by decide), z0 65 (by decide) (by decide) (by decide) (by decide), z0 66 (by decide) (by decide) (by decide) (by decide)]
          exact ⟨rfl, rfl, rfl, rfl, rfl, rfl, rfl, rfl, rfl, rfl, rfl, rfl, rfl, rfl, rfl, rfl, rfl, rfl, rfl, rfl, rfl, rfl, rfl, rfl, rfl, rfl, rfl⟩
        · unfold SI col
          rw [w69, w67, w49, g44, g46, g54, z0 50 (by decide) (by decide) (by decide) (by decide), z0 52 (by decide) (by decide) (by decide) (by decide), z0 64 (by decide) (by decide) (by decide) (by decide), z0 45 (by decide) (by decide) (by decide) (by decide), z0 55 (by decide) (by decide) (by decide) (by decide)]
          exact ⟨⟨by decide, by decide⟩, Iff.rfl, Or.inl rfl, Or.inl rfl, ⟨by decide, by decide⟩, ⟨by decide, by decide⟩, ⟨by decide, by decide, by decide⟩, fun _ => ⟨Or.inl rfl, fun w => absurd rfl w⟩⟩
        · refine ⟨fun i hi => ?_, z71 0 (by decide), fun i hi w => absurd (z71 i hi) w, fun i hi _ => ?_, fun w => absurd g54 w⟩
          · show bt4 zJ _ = true ↔ _
            rw [bt4_zJ, z71 i hi]
            exact ⟨fun w => Bool.noConfusion w, fun w => absurd rfl w⟩
          · rw [mk_ext (L := 0) (by omega) (fun i _ q => z71 i q)]
            refine ⟨fun w => ?_, fun w => absurd (show 3 ≤ 0 from w) (by decide)⟩
            have w : _ < bvN 2 := w
            have := Int32.lt_iff_toInt_lt.mp w
            rw [g44, nI_toInt (by rw [show (0 : Int32).toInt = 0 by decide]; omega)] at this
            rw [show (bvN 2).toInt = 0 by decide] at this
            omega
        · show RVq j 40 (rvN a2) zJ a
          refine ⟨?_, ?_, ?_, ?_, ?_, ?_, ?_, ?_, ?_, ⟨fun i hi => ?_, fun i _ _ => bt4_zJ⟩, z36 0 (by decide), fun i hi => Or.inl (z36 i hi), fun i hi w => absurd (z36 i hi) w, ?_⟩
          · rw [w33]
            show a2 = 0 ↔ _
            rw [nar01 hz]
          · rw [g34]
            rfl
          · rw [w35]
          · rw [cntK_nil 200 z36]
            rfl
          · rw [z0 37 (by decide) (by decide) (by decide) (by decide)]
            rfl
          · rw [z0 38 (by decide) (by decide) (by decide) (by decide)]
            rfl
          · rw [z0 39 (by decide) (by decide) (by decide) (by decide)]
            rfl
          · rw [w40]
            rfl
          · rw [z0 41 (by decide) (by decide) (by decide) (by decide)]
            exact Iff.rfl
          · rw [bt4_zJ]
            exact ⟨fun w => Bool.noConfusion w, fun w => absurd (z36 i hi) w⟩
          · rw [g34, g46]
            exact Int.le_refl _
      · obtain ⟨q1, q2, q3⟩ := b4 j (by omega)
        exact ⟨q1, FQ_same q2 km4 (fun k _ _ => kn k j e) (fun i _ => by rw [ka 71 (by decide)]) (fun i _ => by rw [ka 72 (by decide)]), RVq_keep q3 (fun k _ => kn k j e) (fun i _ => by rw [ka 36 (by decide)]) (k46 j)⟩
/-- the start -/
theorem RLq_ini : RLq 0 (fun _ _ => 0) 0 ovi (fun _ => 0) (fun _ _ _ => 0) (fun _ _ _ => 0) none [] [] [] ini zer := by
  refine ⟨[], [], rfl, rfl, rfl, ⟨⟨by decide, by decide, fun _ _ _ _ _ _ _ => rfl, fun _ _ _ => ⟨rfl, rfl⟩⟩, fun j hj => absurd hj (Nat.not_lt_zero j), ⟨⟨⟨rfl, rfl, rfl, rfl⟩, ⟨rfl, rfl, rfl, rfl, rfl⟩, fun _ _ => rfl, fun _ => ⟨rfl, rfl⟩, fun c hc => (by cases hc), fun k e he => (by cases he)⟩, by decide, fun c hc => (by cases hc), fun e he => (by cases he)⟩, ⟨by decide, by decide, by decide⟩, fun k e he => (by cases he)⟩, ⟨by decide, by decide, by decide⟩, fun k e he => (by cases he)⟩
/-- run -/
theorem RLq_run {n : Nat} {FX : Nat → Nat → Int32} {nw n1 rr : Int32} {ov tf : Nat → Int32} {FV : FVt} {FJ : FJt} {go : Option S4} {gq : List S3} {gw : List S4} {ga : List A6} {mi m : Nat → Int32} {ma a : Nat → Nat → Int32} (h : RLq n FX nw ov tf FV FJ go gq gw ga mi ma) (hI : MB mi ma) (hx : x_run n1 mi ma = some (m, a, rr)) : RLq n FX (xc_run n FX nw ov tf FV FJ go gq gw ga n1).1 (xc_run n FX nw ov tf FV FJ go gq gw ga n1).2.1 (xc_run n FX nw ov tf FV FJ go gq gw ga n1).2.2.1 (xc_run n FX nw ov tf FV FJ go gq gw ga n1).2.2.2.1 (xc_run n FX nw ov tf FV FJ go gq gw ga n1).2.2.2.2.1 (xc_run n FX nw ov tf FV FJ go gq gw ga n1).2.2.2.2.2.1 (xc_run n FX nw ov tf FV FJ go gq gw ga n1).2.2.2.2.2.2.1 (xc_run n FX nw ov tf FV FJ go gq gw ga n1).2.2.2.2.2.2.2.1 (xc_run n FX nw ov tf FV FJ go gq gw ga n1).2.2.2.2.2.2.2.2.1 m a ∧ (xc_run n FX nw ov tf FV FJ go gq gw ga n1).2.2.2.2.2.2.2.2.2 = rr := by
  obtain ⟨GA, GW, h1, h2, h3, h4, h5⟩ := h
  subst h1 h2 h3
  obtain ⟨ov2, tf2, FV2, FJ2, go2, gq2, GA2, GW2, y1, y2, y3⟩ := run_pair h4 h5 (MB_tick hI).1 (MB_tick hI).2 hx
  rw [y1]
  exact ⟨⟨GA2, GW2, rfl, rfl, rfl, y2, y3⟩, rfl⟩

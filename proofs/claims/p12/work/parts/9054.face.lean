set_option maxRecDepth 100000 in
def xc_tellLost2 (ov : Nat → Int32) (tf : Nat → Int32) (n : Int32) : (Nat → Int32) × (Nat → Int32) × Int32 := bd (ov 11) (fun v1 => (if n < v1 then (ov, tf, (0 : Int32)) else bd (ov 10) (fun v2 => (if v2 < (64 : Int32) then bd (xc_place ov tf n) (fun t3 => bd (t3) (fun v4 => (if v4 = ((-1) : Int32) then bd (ov 10) (fun v5 => bd (upd tf (v5.toNatClampNeg) n) (fun tf => bd (ov 10) (fun v6 => bd (v6 + (1 : Int32)) (fun v7 => bd (upd ov 10 v7) (fun ov => (ov, tf, (1 : Int32))))))) else (ov, tf, (1 : Int32))))) else (ov, tf, (0 : Int32))))))
set_option maxHeartbeats 4000000 in
set_option maxRecDepth 100000 in
theorem s_tellLost2 (l : Launch) (D : va_G) (cI cJ cZ cO : ClassId) (sz : Nat) (r0 r1 r2 r3 r4 r5 : Nat) (ov tf : Nat → Int32) (ol : Option Nat) (n : Int32) (hT : 0 ≤ ov 10) : Met l yX7_tellLost (wa yX7_tellLost cX7_tellLost 2 (some .boolean)) ({ frames := 1, cells := 0, slots := 0, locals := 22 }) (va_Pc [.ref r0, .int n] (pw_s D cI cJ cZ cO sz [(r0, rdC ov (va_rf ol) r1 r2 r3 r4 r5), (r5, tlC cI tf)])) (va_Qi (fun (r : Int32) (_ : Unit) => ((r = 0 ∨ r = 1) ∧ r = (xc_tellLost2 ov tf n).2.2)) (fun (_ : Unit) (t : State) => ∃ (ov2 tf2 : Nat → Int32), ((0 ≤ ov2 10 ∧ (ov2 1 = ov 1 ∧ ov2 2 = ov 2 ∧ ov2 3 = ov 3)) ∧ ov2 = (xc_tellLost2 ov tf n).1 ∧ tf2 = (xc_tellLost2 ov tf n).2.1) ∧ pw_t D cI cJ cZ cO (va_A [(r0, rdC ov (va_rf ol) r1 r2 r3 r4 r5), (r5, tlC cI tf)] sz) [(r0, rdC ov2 (va_rf ol) r1 r2 r3 r4 r5), (r5, tlC cI tf2)] t) (va_A [(r0, rdC ov (va_rf ol) r1 r2 r3 r4 r5), (r5, tlC cI tf)] sz)) 0 0 (va_A [(r0, rdC ov (va_rf ol) r1 r2 r3 r4 r5), (r5, tlC cI tf)] sz) := by
  refine Met.ofW (cc := cX7_tellLost) (maxL := 2) (ret := (some .boolean)) (by decide) rfl ?_
  intro p e s m args below meth c s₁ B hml hv
  obtain ⟨rfl, hsz, hP, hK, hD0, hN⟩ := hv
  have hx := B.exec
  have hb := B.bytes
  have hr := B.returns
  have hts := atoms_spec (ws := (wa yX7_tellLost cX7_tellLost 2 (some .boolean))) B.pre
  have ha : ∀ w ∈ wsL_law, w.before _ s = true := fun w h => hts w (List.mem_cons_of_mem _ h)
  have hown : s.vm.findClass RX7 = some m.cls := findClass_of_methodNamed B.named
  have hlocks := B.notSynchronized
  subst hsz
  have hD := hD0.self (sz := s.heap.size)
  generalize hAe : va_A [(r0, rdC ov (va_rf ol) r1 r2 r3 r4 r5), (r5, tlC cI tf)] s.heap.size = A at hD ⊢
  have hA : ∀ q : Nat, s.heap.size ≤ q → A q := fun q h => by rw [← hAe]; exact Or.inr h
  have hS : va_S A s.heap s.heap [] := va_S.rf
  have hP : va_P D vwCl [(r0, rdC ov (va_rf ol) r1 r2 r3 r4 r5), (r5, tlC cI tf)] s.heap := hP
  have hl := lv_entry ([.ref r0, .int n]) (n := 2) (Nat.le_of_ble_eq_true rfl)
  rw [lg_entry_eq]
  generalize (lg_sl ([.ref r0, .int n]) ++ List.replicate (2 - (lg_sl ([.ref r0, .int n])).length) Slot.unset).toArray = ls at hl ⊢
  have hl : lv_has ls 2 [(0, .ref r0), (1, .int n)] := hl
  obtain ⟨QP, hQP⟩ : ∃ y : State → Prop, y = (MQ below (va_Qi (fun (r : Int32) (_ : Unit) => ((r = 0 ∨ r = 1) ∧ r = (xc_tellLost2 ov tf n).2.2)) (fun (_ : Unit) (t : State) => ∃ (ov2 tf2 : Nat → Int32), ((0 ≤ ov2 10 ∧ (ov2 1 = ov 1 ∧ ov2 2 = ov 2 ∧ ov2 3 = ov 3)) ∧ ov2 = (xc_tellLost2 ov tf n).1 ∧ tf2 = (xc_tellLost2 ov tf n).2.1) ∧ pw_t D cI cJ cZ cO A [(r0, rdC ov2 (va_rf ol) r1 r2 r3 r4 r5), (r5, tlC cI tf2)] t) A) #[(.ref r0 : Value), (.int n : Value)] s 0 0 A) := ⟨_, rfl⟩
  obtain ⟨RES, hRES⟩ : ∃ y, y = (xc_tellLost2 ov tf n) := ⟨_, rfl⟩
  -- from the entry
  have hE := hRES
  unfold xc_tellLost2 at hE
  refine lv_iload_n hx hb dX7_tellLost_0 rfl (lv_at hl 1 rfl) ?_
  refine lv_aload_n hx hb dX7_tellLost_1 rfl (lv_at hl 0 rfl) ?_
  refine va_get (D := D) (ci := 7) (v := .int (ov 11)) (C := RX7) (T := TX7) (N := 15) hx hb ha inlX7 hown hK hP 0 rfl rfl 11 (by decide) (ha _ kf_X7_44) (fun _ h9 => h9) rfl dX7_tellLost_2 ?_
  refine lv_topi (fun x_12 ex_12 => ?_)
  have hE := bd_at ex_12 hE
  refine lv_icmp_lt (tgt := 17) hx hb dX7_tellLost_5 (by decide) (fun c_13 => ?_) (fun c_13 => ?_)
  · have hE := hE.trans (if_pos c_13)
    refine lv_iconst (v := 0) hx hb dX7_tellLost_17 (by decide) ?_
    have hP9 : va_P D vwCl [(r0, rdC ov (va_rf ol) r1 r2 r3 r4 r5), (r5, tlC cI tf)] _ := hP
    have hD9 : va_D A [(r0, rdC ov (va_rf ol) r1 r2 r3 r4 r5), (r5, tlC cI tf)] := hD
    exact W.zret (v := 0) hx hb hr rfl (fun t ht hW => ⟨⟨0, (), rfl, ⟨(by decide), (by rw [← hRES, hE])⟩, ⟨ov, tf, ⟨⟨hT, rfl, rfl, rfl⟩, (by rw [← hRES, hE]), (by rw [← hRES, hE])⟩, by rw [ht]; exact hP9, va_K.moved hW.alike hK, hD9⟩⟩, hS.F ht⟩) hS.2.2 dX7_tellLost_18
  · have hE := hE.trans (if_neg c_13)
    refine lv_aload_n hx hb dX7_tellLost_8 rfl (lv_at hl 0 rfl) ?_
    refine va_get (D := D) (ci := 7) (v := .int (ov 10)) (C := RX7) (T := TX7) (N := 15) hx hb ha inlX7 hown hK hP 0 rfl rfl 10 (by decide) (ha _ kf_X7_47) (fun _ h9 => h9) rfl dX7_tellLost_9 ?_
    refine lv_topi (fun x_14 ex_14 => ?_)
    have hE := bd_at ex_14 hE
    refine lv_bipush (v := 64) hx hb dX7_tellLost_12 (by decide) ?_
    refine lv_icmp_lt (tgt := 19) hx hb dX7_tellLost_14 (by decide) (fun c_15 => ?_) (fun c_15 => ?_)
    · have hE := hE.trans (if_pos c_15)
      refine lv_aload_n hx hb dX7_tellLost_19 rfl (lv_at hl 0 rfl) ?_
      refine lv_iload_n hx hb dX7_tellLost_20 rfl (lv_at hl 1 rfl) ?_
      have hPc := hP.sub (ws' := [(r0, rdC ov (va_rf ol) r1 r2 r3 r4 r5), (r5, tlC cI tf)]) [0, 1] rfl
      have hDc := hD.sub (ws' := [(r0, rdC ov (va_rf ol) r1 r2 r3 r4 r5), (r5, tlC cI tf)]) [0, 1] (by decide) rfl
      have hFc := va_free (wc := [(r0, rdC ov (va_rf ol) r1 r2 r3 r4 r5), (r5, tlC cI tf)]) hD hS hA [0, 1] rfl
      refine va_calli (va_runV (As := [.int n]) (rest := []) ⟨hx, hb, hml, hown, ha⟩ (s_place l D cI cJ cZ cO _ r0 r1 r2 r3 r4 r5 ov tf ol n) (cwV 1 ha (gaV kl_X7_50 km_X7_placeOfTold ks_X7_placeOfTold kz_X7 kd_X7_placeOfTold) rfl rfl rfl (by decide +kernel) ⟨Nat.le_of_ble_eq_true rfl, Nat.le_of_ble_eq_true rfl⟩) ⟨pw_blind, va_recv hK hPc (ci := 7) (q0 := 0) rfl rfl, fun U hU hW => ⟨rfl, pw_start hU hW hPc hK hDc hN⟩⟩ rfl rfl hl.1 rfl (lv_room (Nat.le_of_ble_eq_true rfl)) dX7_tellLost_21 ⟨Nat.le_of_ble_eq_true rfl, Nat.le_of_ble_eq_true rfl⟩) hS (fun q _ h => hFc q h) hFc (fun r_16 u t H1 locs ht hvm hw hB hz1 hk1 hS => ?_)
      obtain ⟨hP1, hK1, hD1⟩ := hB
      have hE := bd_at rfl hE
      have hE := bd_at hw.2 hE
      rw [ht] at hP1
      obtain ⟨hP, hD⟩ := va_join (wr := []) (w1 := [(r0, rdC ov (va_rf ol) r1 r2 r3 r4 r5), (r5, tlC cI tf)]) hP hD [0, 1] [] rfl rfl (by decide) (by decide) hk1 hFc hP1 hD1
      generalize H1 = H at hP hS ⊢
      have hP : va_P D vwCl [(r0, rdC ov (va_rf ol) r1 r2 r3 r4 r5), (r5, tlC cI tf)] H := hP
      have hD : va_D A [(r0, rdC ov (va_rf ol) r1 r2 r3 r4 r5), (r5, tlC cI tf)] := hD
      refine W.widen (k := 0) (n := 0) (Nat.le_of_ble_eq_true rfl) (Nat.le_of_ble_eq_true rfl) ?_
      have hr_16 := hw.1
      refine lv_iconst (v := (-1)) hx hb dX7_tellLost_24 (by decide) ?_
      refine lv_icmp_ne (tgt := 48) hx hb dX7_tellLost_25 (by decide) (fun c_17 => ?_) (fun c_17 => ?_)
      · have hE := hE.trans (if_neg c_17)
        refine lv_iconst (v := 1) hx hb dX7_tellLost_48 (by decide) ?_
        have hP9 : va_P D vwCl [(r0, rdC ov (va_rf ol) r1 r2 r3 r4 r5), (r5, tlC cI tf)] _ := hP
        have hD9 : va_D A [(r0, rdC ov (va_rf ol) r1 r2 r3 r4 r5), (r5, tlC cI tf)] := hD
        exact W.zret (v := 1) hx hb hr rfl (fun t ht hW => ⟨⟨1, (), rfl, ⟨(by decide), (by rw [← hRES, hE])⟩, ⟨ov, tf, ⟨⟨hT, rfl, rfl, rfl⟩, (by rw [← hRES, hE]), (by rw [← hRES, hE])⟩, by rw [ht]; exact hP9, va_K.moved hW.alike hK, hD9⟩⟩, hS.F ht⟩) hS.2.2 dX7_tellLost_49
      · have hE := hE.trans (if_pos c_17)
        refine lv_aload_n hx hb dX7_tellLost_28 rfl (lv_at hl 0 rfl) ?_
        refine va_get (D := D) (ci := 7) (v := .ref r5) (C := RX7) (T := TX7) (N := 15) hx hb ha inlX7 hown hK hP 0 rfl rfl 9 (by decide) (ha _ kf_X7_40) (fun _ h9 => h9) rfl dX7_tellLost_29 ?_
        refine lv_aload_n hx hb dX7_tellLost_32 rfl (lv_at hl 0 rfl) ?_
        refine va_get (D := D) (ci := 7) (v := .int (ov 10)) (C := RX7) (T := TX7) (N := 15) hx hb ha inlX7 hown hK hP 0 rfl rfl 10 (by decide) (ha _ kf_X7_47) (fun _ h9 => h9) rfl dX7_tellLost_33 ?_
        refine lv_topi (fun x_18 ex_18 => ?_)
        have hE := bd_at ex_18 hE
        refine lv_iload_n hx hb dX7_tellLost_36 rfl (lv_at hl 1 rfl) ?_
        refine va_iast hx hb hK hP hD hS 1 0 rfl rfl (tl2 hT ex_14 (Int32.not_le.mpr c_15) ex_18).1 dX7_tellLost_37 (fun H locs hP hD hS => ?_)
        have hP : va_P D vwCl [(r0, rdC ov (va_rf ol) r1 r2 r3 r4 r5), (r5, .inl (cI, 64, .inl (upd tf ((x_18 : Int32).toNatClampNeg) n)))] H := hP
        have hD : va_D A [(r0, rdC ov (va_rf ol) r1 r2 r3 r4 r5), (r5, .inl (cI, 64, .inl (upd tf ((x_18 : Int32).toNatClampNeg) n)))] := hD
        generalize hga_19 : upd tf ((x_18 : Int32).toNatClampNeg) n = tf at hP hD
        have hE := bs_at hga_19 hE
        refine lv_aload_n hx hb dX7_tellLost_38 rfl (lv_at hl 0 rfl) ?_
        refine lv_dup hx hb dX7_tellLost_39 rfl ?_
        refine va_get (D := D) (ci := 7) (v := .int (ov 10)) (C := RX7) (T := TX7) (N := 15) hx hb ha inlX7 hown hK hP 0 rfl rfl 10 (by decide) (ha _ kf_X7_47) (fun _ h9 => h9) rfl dX7_tellLost_40 ?_
        refine lv_topi (fun x_20 ex_20 => ?_)
        have hE := bd_at ex_20 hE
        refine lv_iconst (v := 1) hx hb dX7_tellLost_43 (by decide) ?_
        refine lv_iadd hx hb dX7_tellLost_44 ?_
        refine lv_topi (fun x_21 ex_21 => ?_)
        have hE := bd_at ex_21 hE
        refine va_put (D := D) (ci := 7) (v := .int x_21) (ty := .int) (C := RX7) (T := TX7) (N := 15) hx hb ha inlX7 tyX7 tyX7_ok nmX7 hown hK hP hD hS 0 rfl rfl 10 (by decide) (ha _ kf_X7_47) (fun _ h9 => h9) rfl (by decide +kernel) rfl rfl (Nat.le_of_ble_eq_true rfl) dX7_tellLost_45 (fun H locs hP hD hS => ?_)
        have hP : va_P D vwCl [(r0, rdC (upd ov 10 x_21) (va_rf ol) r1 r2 r3 r4 r5), (r5, tlC cI tf)] H := hP
        have hD : va_D A [(r0, rdC (upd ov 10 x_21) (va_rf ol) r1 r2 r3 r4 r5), (r5, tlC cI tf)] := hD
        generalize hg_22 : upd ov 10 x_21 = ov at hP hD
        have hE := bs_at hg_22 hE
        refine lv_iconst (v := 1) hx hb dX7_tellLost_48 (by decide) ?_
        have hP9 : va_P D vwCl [(r0, rdC ov (va_rf ol) r1 r2 r3 r4 r5), (r5, tlC cI tf)] _ := hP
        have hD9 : va_D A [(r0, rdC ov (va_rf ol) r1 r2 r3 r4 r5), (r5, tlC cI tf)] := hD
        exact W.zret (v := 1) hx hb hr rfl (fun t ht hW => ⟨⟨1, (), rfl, ⟨(by decide), (by rw [← hRES, hE])⟩, ⟨ov, tf, ⟨⟨(by rw [← show x_21 = ov 10 from congrFun hg_22 10, ex_21]; exact (tl2 hT ex_14 (Int32.not_le.mpr c_15) ex_20).2), (congrFun hg_22 1).symm, (congrFun hg_22 2).symm, (congrFun hg_22 3).symm⟩, (by rw [← hRES, hE]), (by rw [← hRES, hE])⟩, by rw [ht]; exact hP9, va_K.moved hW.alike hK, hD9⟩⟩, hS.F ht⟩) hS.2.2 dX7_tellLost_49
    · have hE := hE.trans (if_neg c_15)
      refine lv_iconst (v := 0) hx hb dX7_tellLost_17 (by decide) ?_
      have hP9 : va_P D vwCl [(r0, rdC ov (va_rf ol) r1 r2 r3 r4 r5), (r5, tlC cI tf)] _ := hP
      have hD9 : va_D A [(r0, rdC ov (va_rf ol) r1 r2 r3 r4 r5), (r5, tlC cI tf)] := hD
      exact W.zret (v := 0) hx hb hr rfl (fun t ht hW => ⟨⟨0, (), rfl, ⟨(by decide), (by rw [← hRES, hE])⟩, ⟨ov, tf, ⟨⟨hT, rfl, rfl, rfl⟩, (by rw [← hRES, hE]), (by rw [← hRES, hE])⟩, by rw [ht]; exact hP9, va_K.moved hW.alike hK, hD9⟩⟩, hS.F ht⟩) hS.2.2 dX7_tellLost_18

set_option maxHeartbeats 4000000 in
set_option maxRecDepth 100000 in
theorem s_addGoal (l : Launch) (D : va_G) (cI cJ cZ cO : ClassId) (sz : Nat) (h0 h1 h2 h7 : Nat) (n0 k0 g0 : Int32) (sv : Nat → Int32) (n1 : Int32) : Met l yX8_addGoal (wa yX8_addGoal cX8_addGoal 2 (some .int)) ({ frames := 0, cells := 0, slots := 0, locals := 0 }) (va_Pc [.ref h0, .int n1] (pw_s D cI cJ cZ cO sz [(h0, snC n0 k0 g0 sv h1 h2 h7)])) (va_Qi (fun (r : Int32) (_ : Unit) => r = ag g0 n1) (fun (_ : Unit) (t : State) => pw_t D cI cJ cZ cO (va_A [(h0, snC n0 k0 g0 sv h1 h2 h7)] sz) [(h0, snC n0 k0 (ag2 g0 n1) sv h1 h2 h7)] t) (va_A [(h0, snC n0 k0 g0 sv h1 h2 h7)] sz)) 0 0 (va_A [(h0, snC n0 k0 g0 sv h1 h2 h7)] sz) := by
  refine Met.ofW (cc := cX8_addGoal) (maxL := 2) (ret := (some .int)) (by decide) rfl ?_
  intro p e s m args below meth c s₁ B hml hv
  obtain ⟨rfl, hsz, hP, hK, hD0, hN⟩ := hv
  have hx := B.exec
  have hb := B.bytes
  have hr := B.returns
  have hts := atoms_spec (ws := (wa yX8_addGoal cX8_addGoal 2 (some .int))) B.pre
  have ha : ∀ w ∈ wsL_law, w.before _ s = true := fun w h => hts w (List.mem_cons_of_mem _ h)
  have hown : s.vm.findClass RX8 = some m.cls := findClass_of_methodNamed B.named
  have hlocks := B.notSynchronized
  subst hsz
  have hD := hD0.self (sz := s.heap.size)
  generalize hAe : va_A [(h0, snC n0 k0 g0 sv h1 h2 h7)] s.heap.size = A at hD ⊢
  have hA : ∀ q : Nat, s.heap.size ≤ q → A q := fun q h => by rw [← hAe]; exact Or.inr h
  have hS : va_S A s.heap s.heap [] := va_S.rf
  have hP : va_P D vwCl [(h0, snC n0 k0 g0 sv h1 h2 h7)] s.heap := hP
  have hl := lv_entry ([.ref h0, .int n1]) (n := 2) (Nat.le_of_ble_eq_true rfl)
  rw [lg_entry_eq]
  generalize (lg_sl ([.ref h0, .int n1]) ++ List.replicate (2 - (lg_sl ([.ref h0, .int n1])).length) Slot.unset).toArray = ls at hl ⊢
  have hl : lv_has ls 2 [(0, .ref h0), (1, .int n1)] := hl
  -- from the entry
  refine lv_aload_n hx hb dX8_addGoal_0 rfl (lv_at hl 0 rfl) ?_
  refine va_get (D := D) (ci := 8) (v := .int g0) (C := RX8) (T := TX8) (N := 20) hx hb ha inlX8 hown hK hP 0 rfl rfl 2 (by decide) (ha _ kf_X8_52) (fun _ h9 => h9) rfl dX8_addGoal_1 ?_
  refine lv_ldc (v := 1000000) hx hb hown (ha _ kk_X8_55) dX8_addGoal_4 ?_
  refine lv_iload_n hx hb dX8_addGoal_6 rfl (lv_at hl 1 rfl) ?_
  refine lv_isub hx hb dX8_addGoal_7 ?_
  refine lv_topi (fun x_4 ex_4 => ?_)
  refine lv_icmp_le (tgt := 13) hx hb dX8_addGoal_8 (by decide) (fun c_5 => ?_) (fun c_5 => ?_)
  · refine lv_aload_n hx hb dX8_addGoal_13 rfl (lv_at hl 0 rfl) ?_
    refine lv_dup hx hb dX8_addGoal_14 rfl ?_
    refine va_get (D := D) (ci := 8) (v := .int g0) (C := RX8) (T := TX8) (N := 20) hx hb ha inlX8 hown hK hP 0 rfl rfl 2 (by decide) (ha _ kf_X8_52) (fun _ h9 => h9) rfl dX8_addGoal_15 ?_
    refine lv_iload_n hx hb dX8_addGoal_18 rfl (lv_at hl 1 rfl) ?_
    refine lv_iadd hx hb dX8_addGoal_19 ?_
    refine lv_topi (fun x_6 ex_6 => ?_)
    refine va_put (D := D) (ci := 8) (v := .int x_6) (ty := .int) (C := RX8) (T := TX8) (N := 20) hx hb ha inlX8 tyX8 tyX8_ok nmX8 hown hK hP hD hS 0 rfl rfl 2 (by decide) (ha _ kf_X8_52) (fun _ h9 => h9) rfl (by decide +kernel) rfl rfl (Nat.le_of_ble_eq_true rfl) dX8_addGoal_20 (fun H locs hP hD hS => ?_)
    have hP : va_P D vwCl [(h0, snC n0 k0 x_6 sv h1 h2 h7)] H := hP
    have hD : va_D A [(h0, snC n0 k0 x_6 sv h1 h2 h7)] := hD
    refine lv_aload_n hx hb dX8_addGoal_23 rfl (lv_at hl 0 rfl) ?_
    refine va_get (D := D) (ci := 8) (v := .int x_6) (C := RX8) (T := TX8) (N := 20) hx hb ha inlX8 hown hK hP 0 rfl rfl 2 (by decide) (ha _ kf_X8_52) (fun _ h9 => h9) rfl dX8_addGoal_24 ?_
    have hP9 : va_P D vwCl [(h0, snC n0 k0 (ag2 g0 n1) sv h1 h2 h7)] _ := (by unfold ag2; rw [← ex_4, if_pos c_5, ← ex_6]; exact hP)
    have hD9 : va_D A [(h0, snC n0 k0 (ag2 g0 n1) sv h1 h2 h7)] := (by unfold ag2; rw [← ex_4, if_pos c_5, ← ex_6]; exact hD)
    exact W.iret (v := x_6) hx hb hr (fun t ht hW => ⟨⟨x_6, (), rfl, (by unfold ag; rw [← ex_4, if_pos c_5]; exact ex_6), ⟨by rw [ht]; exact hP9, va_K.moved hW.alike hK, hD9⟩⟩, hS.F ht⟩) hS.2.2 dX8_addGoal_27
  · refine lv_iconst (v := (-1)) hx hb dX8_addGoal_11 (by decide) ?_
    have hP9 : va_P D vwCl [(h0, snC n0 k0 (ag2 g0 n1) sv h1 h2 h7)] _ := (by unfold ag2; rw [← ex_4, if_neg c_5]; exact hP)
    have hD9 : va_D A [(h0, snC n0 k0 (ag2 g0 n1) sv h1 h2 h7)] := (by unfold ag2; rw [← ex_4, if_neg c_5]; exact hD)
    exact W.iret (v := (-1)) hx hb hr (fun t ht hW => ⟨⟨(-1), (), rfl, (by unfold ag; rw [← ex_4, if_neg c_5]), ⟨by rw [ht]; exact hP9, va_K.moved hW.alike hK, hD9⟩⟩, hS.F ht⟩) hS.2.2 dX8_addGoal_12

set_option maxRecDepth 100000 in
def xc_changeWin (n0 : Int32) (w0 : Int32) (rv : Nat → Int32) (n1 : Int32) : (Nat → Int32) := (if n1 = w0 then (rv) else bd (upd rv 10 (1 : Int32)) (fun rv => (rv)))
set_option maxHeartbeats 4000000 in
set_option maxRecDepth 100000 in
theorem s_changeWin (l : Launch) (D : va_G) (cI cJ cZ cO : ClassId) (sz : Nat) (h0 h1 : Nat) (n0 w0 : Int32) (rv : Nat → Int32) (n1 : Int32) : Met l yX6_changeWindow (wa yX6_changeWindow cX6_changeWindow 3 (some .int)) ({ frames := 0, cells := 0, slots := 0, locals := 0 }) (va_Pc [.ref h0, .int n1] (pw_s D cI cJ cZ cO sz [(h0, rcC n0 rv w0 h1)])) (va_Qi (fun (r : Int32) (_ : Unit) => r = w0) (fun (_ : Unit) (t : State) => ∃ (rv2 : Nat → Int32), (rv2 = (xc_changeWin n0 w0 rv n1)) ∧ pw_t D cI cJ cZ cO (va_A [(h0, rcC n0 rv w0 h1)] sz) [(h0, rcC n0 rv2 n1 h1)] t) (va_A [(h0, rcC n0 rv w0 h1)] sz)) 0 0 (va_A [(h0, rcC n0 rv w0 h1)] sz) := by
  refine Met.ofW (cc := cX6_changeWindow) (maxL := 3) (ret := (some .int)) (by decide) rfl ?_
  intro p e s m args below meth c s₁ B hml hv
  obtain ⟨rfl, hsz, hP, hK, hD0, hN⟩ := hv
  have hx := B.exec
  have hb := B.bytes
  have hr := B.returns
  have hts := atoms_spec (ws := (wa yX6_changeWindow cX6_changeWindow 3 (some .int))) B.pre
  have ha : ∀ w ∈ wsL_law, w.before _ s = true := fun w h => hts w (List.mem_cons_of_mem _ h)
  have hown : s.vm.findClass RX6 = some m.cls := findClass_of_methodNamed B.named
  have hlocks := B.notSynchronized
  subst hsz
  have hD := hD0.self (sz := s.heap.size)
  generalize hAe : va_A [(h0, rcC n0 rv w0 h1)] s.heap.size = A at hD ⊢
  have hA : ∀ q : Nat, s.heap.size ≤ q → A q := fun q h => by rw [← hAe]; exact Or.inr h
  have hS : va_S A s.heap s.heap [] := va_S.rf
  have hP : va_P D vwCl [(h0, rcC n0 rv w0 h1)] s.heap := hP
  have hl := lv_entry ([.ref h0, .int n1]) (n := 3) (Nat.le_of_ble_eq_true rfl)
  rw [lg_entry_eq]
  generalize (lg_sl ([.ref h0, .int n1]) ++ List.replicate (3 - (lg_sl ([.ref h0, .int n1])).length) Slot.unset).toArray = ls at hl ⊢
  have hl : lv_has ls 3 [(0, .ref h0), (1, .int n1)] := hl
  obtain ⟨QP, hQP⟩ : ∃ y : State → Prop, y = (MQ below (va_Qi (fun (r : Int32) (_ : Unit) => r = w0) (fun (_ : Unit) (t : State) => ∃ (rv2 : Nat → Int32), (rv2 = (xc_changeWin n0 w0 rv n1)) ∧ pw_t D cI cJ cZ cO A [(h0, rcC n0 rv2 n1 h1)] t) A) #[(.ref h0 : Value), (.int n1 : Value)] s 0 0 A) := ⟨_, rfl⟩
  obtain ⟨RES, hRES⟩ : ∃ y, y = (xc_changeWin n0 w0 rv n1) := ⟨_, rfl⟩
  -- from the entry
  have hE := hRES
  unfold xc_changeWin at hE
  refine lv_aload_n hx hb dX6_changeWindow_0 rfl (lv_at hl 0 rfl) ?_
  refine va_get (D := D) (ci := 6) (v := .int w0) (C := RX6) (T := TX6) (N := 11) hx hb ha inlX6 hown hK hP 0 rfl rfl 3 (by decide) (ha _ kf_X6_9) (fun _ h9 => h9) rfl dX6_changeWindow_1 ?_
  refine lv_istore_n (lv' := [(2, .int w0), (0, .ref h0), (1, .int n1)]) hx hb dX6_changeWindow_4 rfl hl (by decide) rfl (fun ls hl => ?_)
  refine lv_iload_n hx hb dX6_changeWindow_5 rfl (lv_at hl 2 rfl) ?_
  refine lv_iload_n hx hb dX6_changeWindow_6 rfl (lv_at hl 0 rfl) ?_
  refine lv_icmp_eq (tgt := 20) hx hb dX6_changeWindow_7 (by decide) (fun c_3 => ?_) (fun c_3 => ?_)
  · have hE := hE.trans (if_pos c_3)
    refine lv_iload_n hx hb dX6_changeWindow_20 rfl (lv_at hl 0 rfl) ?_
    have hP9 : va_P D vwCl [(h0, rcC n0 rv n1 h1)] _ := (by rw [c_3]; exact hP)
    have hD9 : va_D A [(h0, rcC n0 rv n1 h1)] := (by rw [c_3]; exact hD)
    exact W.iret (v := w0) hx hb hr (fun t ht hW => ⟨⟨w0, (), rfl, rfl, ⟨rv, (by rw [← hRES, hE]), by rw [ht]; exact hP9, va_K.moved hW.alike hK, hD9⟩⟩, hS.F ht⟩) hS.2.2 dX6_changeWindow_21
  · have hE := hE.trans (if_neg c_3)
    refine lv_aload_n hx hb dX6_changeWindow_10 rfl (lv_at hl 1 rfl) ?_
    refine lv_iload_n hx hb dX6_changeWindow_11 rfl (lv_at hl 2 rfl) ?_
    refine va_put (D := D) (ci := 6) (v := .int n1) (ty := .int) (C := RX6) (T := TX6) (N := 11) hx hb ha inlX6 tyX6 tyX6_ok nmX6 hown hK hP hD hS 0 rfl rfl 3 (by decide) (ha _ kf_X6_9) (fun _ h9 => h9) rfl (by decide +kernel) rfl rfl (Nat.le_of_ble_eq_true rfl) dX6_changeWindow_12 (fun H locs hP hD hS => ?_)
    have hP : va_P D vwCl [(h0, rcC n0 rv n1 h1)] H := hP
    have hD : va_D A [(h0, rcC n0 rv n1 h1)] := hD
    refine lv_aload_n hx hb dX6_changeWindow_15 rfl (lv_at hl 1 rfl) ?_
    refine lv_iconst (v := 1) hx hb dX6_changeWindow_16 (by decide) ?_
    refine va_put (D := D) (ci := 6) (v := .int 1) (ty := .boolean) (C := RX6) (T := TX6) (N := 11) hx hb ha inlX6 tyX6 tyX6_ok nmX6 hown hK hP hD hS 0 rfl rfl 10 (by decide) (ha _ kf_X6_32) (fun _ h9 => h9) rfl (by decide +kernel) rfl rfl (Nat.le_of_ble_eq_true rfl) dX6_changeWindow_17 (fun H locs hP hD hS => ?_)
    have hP : va_P D vwCl [(h0, rcC n0 (upd rv 10 1) n1 h1)] H := hP
    have hD : va_D A [(h0, rcC n0 (upd rv 10 1) n1 h1)] := hD
    generalize hg_4 : upd rv 10 1 = rv at hP hD
    have hE := bs_at hg_4 hE
    refine lv_iload_n hx hb dX6_changeWindow_20 rfl (lv_at hl 0 rfl) ?_
    have hP9 : va_P D vwCl [(h0, rcC n0 rv n1 h1)] _ := hP
    have hD9 : va_D A [(h0, rcC n0 rv n1 h1)] := hD
    exact W.iret (v := w0) hx hb hr (fun t ht hW => ⟨⟨w0, (), rfl, rfl, ⟨rv, (by rw [← hRES, hE]), by rw [ht]; exact hP9, va_K.moved hW.alike hK, hD9⟩⟩, hS.F ht⟩) hS.2.2 dX6_changeWindow_21

def xc_roadTell (ov zn : Nat → Int32) (ol : Option Nat) (n1 : Int32) : Int32 := if n1 = 2 then bd (ov 11) (fun v => v) else if n1 = 3 then zn 0 else if n1 = 4 then bd (ov 12) (fun v => v) else if n1 = 5 then bd (ov 13) (fun v => v) else if n1 = 6 then zn 1 else if n1 = 7 then zn 2 else if n1 = 8 then om ol 0 (fun _ => 1) else if n1 = 9 then bd (ov 14) (fun v => v) else -1
set_option maxHeartbeats 4000000 in
set_option maxRecDepth 100000 in
theorem s_roadTell (l : Launch) (D : va_G) (cI cJ cZ cO : ClassId) (sz : Nat) (r0 r1 r2 r3 r4 r5 : Nat) (ov : Nat → Int32) (ol : Option Nat) (cf cl : Nat → Option Nat) (zn : Nat → Int32) (xl : Nat → List Nat) (tag : Nat → Nat) (L : List Nat) (kd : Nat → Bool) (pi : Nat → Nat → Int32) (bd : Nat → Nat) (af : Nat → Option Nat) (bo : Nat → Nat → Int64) (go : Option S4) (gq : List S3) (gw : List S4) (ga : List A6) (n1 : Int32) : Met l yX7_tell (wa yX7_tell cX7_tell 2 (some .int)) ({ frames := 0, cells := 0, slots := 0, locals := 0 }) (va_Pc [.ref r0, .int n1] (pw_s D cI cJ cZ cO sz [(r0, rdC ov (va_rf ol) r1 r2 r3 r4 r5), (r1, chC cf cl zn 0), (r2, chC cf cl zn 1), (r3, chC cf cl zn 2)])) (va_Qi (fun (r : Int32) (_ : Unit) => ((True) ∧ r = (xc_roadTell ov zn ol n1))) (fun (_ : Unit) (t : State) => pw_t D cI cJ cZ cO (va_A [(r0, rdC ov (va_rf ol) r1 r2 r3 r4 r5), (r1, chC cf cl zn 0), (r2, chC cf cl zn 1), (r3, chC cf cl zn 2)] sz) [(r0, rdC ov (va_rf ol) r1 r2 r3 r4 r5), (r1, chC cf cl zn 0), (r2, chC cf cl zn 1), (r3, chC cf cl zn 2)] t) (va_A [(r0, rdC ov (va_rf ol) r1 r2 r3 r4 r5), (r1, chC cf cl zn 0), (r2, chC cf cl zn 1), (r3, chC cf cl zn 2)] sz)) 0 0 (va_A [(r0, rdC ov (va_rf ol) r1 r2 r3 r4 r5), (r1, chC cf cl zn 0), (r2, chC cf cl zn 1), (r3, chC cf cl zn 2)] sz) := by
  refine Met.ofW (cc := cX7_tell) (maxL := 2) (ret := (some .int)) (by decide) rfl ?_
  intro p e s m args below meth c s₁ B hml hv
  obtain ⟨rfl, hsz, hP, hK, hD0, hN⟩ := hv
  have hx := B.exec
  have hb := B.bytes
  have hr := B.returns
  have hts := atoms_spec (ws := (wa yX7_tell cX7_tell 2 (some .int))) B.pre
  have ha : ∀ w ∈ wsL_law, w.before _ s = true := fun w h => hts w (List.mem_cons_of_mem _ h)
  have hown : s.vm.findClass RX7 = some m.cls := findClass_of_methodNamed B.named
  have hlocks := B.notSynchronized
  subst hsz
  have hD := hD0.self (sz := s.heap.size)
  generalize hAe : va_A [(r0, rdC ov (va_rf ol) r1 r2 r3 r4 r5), (r1, chC cf cl zn 0), (r2, chC cf cl zn 1), (r3, chC cf cl zn 2)] s.heap.size = A at hD ⊢
  have hA : ∀ q : Nat, s.heap.size ≤ q → A q := fun q h => by rw [← hAe]; exact Or.inr h
  have hS : va_S A s.heap s.heap [] := va_S.rf
  have hP : va_P D vwCl [(r0, rdC ov (va_rf ol) r1 r2 r3 r4 r5), (r1, chC cf cl zn 0), (r2, chC cf cl zn 1), (r3, chC cf cl zn 2)] s.heap := hP
  have hl := lv_entry ([.ref r0, .int n1]) (n := 2) (Nat.le_of_ble_eq_true rfl)
  rw [lg_entry_eq]
  generalize (lg_sl ([.ref r0, .int n1]) ++ List.replicate (2 - (lg_sl ([.ref r0, .int n1])).length) Slot.unset).toArray = ls at hl ⊢
  have hl : lv_has ls 2 [(0, .ref r0), (1, .int n1)] := hl
  obtain ⟨QP, hQP⟩ : ∃ y : State → Prop, y = (MQ below (va_Qi (fun (r : Int32) (_ : Unit) => ((True) ∧ r = (xc_roadTell ov zn ol n1))) (fun (_ : Unit) (t : State) => pw_t D cI cJ cZ cO A [(r0, rdC ov (va_rf ol) r1 r2 r3 r4 r5), (r1, chC cf cl zn 0), (r2, chC cf cl zn 1), (r3, chC cf cl zn 2)] t) A) #[(.ref r0 : Value), (.int n1 : Value)] s 0 0 A) := ⟨_, rfl⟩
  obtain ⟨RES, hRES⟩ : ∃ y, y = (xc_roadTell ov zn ol n1) := ⟨_, rfl⟩
  -- from the entry
  have hE := hRES
  unfold xc_roadTell at hE
  refine lv_iload_n hx hb dX7_tell_0 rfl (lv_at hl 1 rfl) ?_
  by_cases t_7_2 : n1 = 2
  · have hE := hE.trans (if_pos t_7_2)
    refine lv_tableIn (tgt := 48) (off := 47) hx hb dX7_tell_1 (by rw [t_7_2]; decide) (by rw [t_7_2]; decide) (by rw [t_7_2]; rfl) (by decide) ?_
    refine lv_aload_n hx hb dX7_tell_48 rfl (lv_at hl 0 rfl) ?_
    refine va_get (D := D) (ci := 7) (v := .int (ov 11)) (C := RX7) (T := TX7) (N := 15) hx hb ha inlX7 hown hK hP 0 rfl rfl 11 (by decide) (ha _ kf_X7_44) (fun _ h9 => h9) rfl dX7_tell_49 ?_
    refine lv_topi (fun x_8 ex_8 => ?_)
    have hE := bd_at ex_8 hE
    have hP9 : va_P D vwCl [(r0, rdC ov (va_rf ol) r1 r2 r3 r4 r5), (r1, chC cf cl zn 0), (r2, chC cf cl zn 1), (r3, chC cf cl zn 2)] _ := hP
    have hD9 : va_D A [(r0, rdC ov (va_rf ol) r1 r2 r3 r4 r5), (r1, chC cf cl zn 0), (r2, chC cf cl zn 1), (r3, chC cf cl zn 2)] := hD
    exact W.iret (v := x_8) hx hb hr (fun t ht hW => ⟨⟨x_8, (), rfl, ⟨trivial, (by rw [← hRES, hE])⟩, ⟨by rw [ht]; exact hP9, va_K.moved hW.alike hK, hD9⟩⟩, hS.F ht⟩) hS.2.2 dX7_tell_52
  have hE := hE.trans (if_neg t_7_2)
  by_cases t_7_3 : n1 = 3
  · have hE := hE.trans (if_pos t_7_3)
    refine lv_tableIn (tgt := 53) (off := 52) hx hb dX7_tell_1 (by rw [t_7_3]; decide) (by rw [t_7_3]; decide) (by rw [t_7_3]; rfl) (by decide) ?_
    refine lv_aload_n hx hb dX7_tell_53 rfl (lv_at hl 0 rfl) ?_
    refine va_get (D := D) (ci := 7) (v := .ref r1) (C := RX7) (T := TX7) (N := 15) hx hb ha inlX7 hown hK hP 0 rfl rfl 5 (by decide) (ha _ kf_X7_27) (fun _ h9 => h9) rfl dX7_tell_54 ?_
    refine va_getN (D := D) (ci := 1) (v := .int (zn 0)) (C := RX1) (T := TX1) (N := 3) hx hb ha inlX1 hown hK hP 1 rfl rfl 2 (by decide) (va_Nw.use rfl (hN.f RX7 78 "CongestionBench$Chain" "size" "I" "CongestionBench" (by decide +kernel))) (fun _ h9 => h9) rfl dX7_tell_57 ?_
    have hP9 : va_P D vwCl [(r0, rdC ov (va_rf ol) r1 r2 r3 r4 r5), (r1, chC cf cl zn 0), (r2, chC cf cl zn 1), (r3, chC cf cl zn 2)] _ := hP
    have hD9 : va_D A [(r0, rdC ov (va_rf ol) r1 r2 r3 r4 r5), (r1, chC cf cl zn 0), (r2, chC cf cl zn 1), (r3, chC cf cl zn 2)] := hD
    exact W.iret (v := (zn 0)) hx hb hr (fun t ht hW => ⟨⟨(zn 0), (), rfl, ⟨trivial, (by rw [← hRES, hE])⟩, ⟨by rw [ht]; exact hP9, va_K.moved hW.alike hK, hD9⟩⟩, hS.F ht⟩) hS.2.2 dX7_tell_60
  have hE := hE.trans (if_neg t_7_3)
  by_cases t_7_4 : n1 = 4
  · have hE := hE.trans (if_pos t_7_4)
    refine lv_tableIn (tgt := 61) (off := 60) hx hb dX7_tell_1 (by rw [t_7_4]; decide) (by rw [t_7_4]; decide) (by rw [t_7_4]; rfl) (by decide) ?_
    refine lv_aload_n hx hb dX7_tell_61 rfl (lv_at hl 0 rfl) ?_
    refine va_get (D := D) (ci := 7) (v := .int (ov 12)) (C := RX7) (T := TX7) (N := 15) hx hb ha inlX7 hown hK hP 0 rfl rfl 12 (by decide) (ha _ kf_X7_81) (fun _ h9 => h9) rfl dX7_tell_62 ?_
    refine lv_topi (fun x_9 ex_9 => ?_)
    have hE := bd_at ex_9 hE
    have hP9 : va_P D vwCl [(r0, rdC ov (va_rf ol) r1 r2 r3 r4 r5), (r1, chC cf cl zn 0), (r2, chC cf cl zn 1), (r3, chC cf cl zn 2)] _ := hP
    have hD9 : va_D A [(r0, rdC ov (va_rf ol) r1 r2 r3 r4 r5), (r1, chC cf cl zn 0), (r2, chC cf cl zn 1), (r3, chC cf cl zn 2)] := hD
    exact W.iret (v := x_9) hx hb hr (fun t ht hW => ⟨⟨x_9, (), rfl, ⟨trivial, (by rw [← hRES, hE])⟩, ⟨by rw [ht]; exact hP9, va_K.moved hW.alike hK, hD9⟩⟩, hS.F ht⟩) hS.2.2 dX7_tell_65
  have hE := hE.trans (if_neg t_7_4)
  by_cases t_7_5 : n1 = 5
  · have hE := hE.trans (if_pos t_7_5)
    refine lv_tableIn (tgt := 66) (off := 65) hx hb dX7_tell_1 (by rw [t_7_5]; decide) (by rw [t_7_5]; decide) (by rw [t_7_5]; rfl) (by decide) ?_
    refine lv_aload_n hx hb dX7_tell_66 rfl (lv_at hl 0 rfl) ?_
    refine va_get (D := D) (ci := 7) (v := .int (ov 13)) (C := RX7) (T := TX7) (N := 15) hx hb ha inlX7 hown hK hP 0 rfl rfl 13 (by decide) (ha _ kf_X7_75) (fun _ h9 => h9) rfl dX7_tell_67 ?_
    refine lv_topi (fun x_10 ex_10 => ?_)
    have hE := bd_at ex_10 hE
    have hP9 : va_P D vwCl [(r0, rdC ov (va_rf ol) r1 r2 r3 r4 r5), (r1, chC cf cl zn 0), (r2, chC cf cl zn 1), (r3, chC cf cl zn 2)] _ := hP
    have hD9 : va_D A [(r0, rdC ov (va_rf ol) r1 r2 r3 r4 r5), (r1, chC cf cl zn 0), (r2, chC cf cl zn 1), (r3, chC cf cl zn 2)] := hD
    exact W.iret (v := x_10) hx hb hr (fun t ht hW => ⟨⟨x_10, (), rfl, ⟨trivial, (by rw [← hRES, hE])⟩, ⟨by rw [ht]; exact hP9, va_K.moved hW.alike hK, hD9⟩⟩, hS.F ht⟩) hS.2.2 dX7_tell_70
  have hE := hE.trans (if_neg t_7_5)
  by_cases t_7_6 : n1 = 6
  · have hE := hE.trans (if_pos t_7_6)
    refine lv_tableIn (tgt := 71) (off := 70) hx hb dX7_tell_1 (by rw [t_7_6]; decide) (by rw [t_7_6]; decide) (by rw [t_7_6]; rfl) (by decide) ?_
    refine lv_aload_n hx hb dX7_tell_71 rfl (lv_at hl 0 rfl) ?_
    refine va_get (D := D) (ci := 7) (v := .ref r2) (C := RX7) (T := TX7) (N := 15) hx hb ha inlX7 hown hK hP 0 rfl rfl 6 (by decide) (ha _ kf_X7_31) (fun _ h9 => h9) rfl dX7_tell_72 ?_
    refine va_getN (D := D) (ci := 1) (v := .int (zn 1)) (C := RX1) (T := TX1) (N := 3) hx hb ha inlX1 hown hK hP 2 rfl rfl 2 (by decide) (va_Nw.use rfl (hN.f RX7 78 "CongestionBench$Chain" "size" "I" "CongestionBench" (by decide +kernel))) (fun _ h9 => h9) rfl dX7_tell_75 ?_
    have hP9 : va_P D vwCl [(r0, rdC ov (va_rf ol) r1 r2 r3 r4 r5), (r1, chC cf cl zn 0), (r2, chC cf cl zn 1), (r3, chC cf cl zn 2)] _ := hP
    have hD9 : va_D A [(r0, rdC ov (va_rf ol) r1 r2 r3 r4 r5), (r1, chC cf cl zn 0), (r2, chC cf cl zn 1), (r3, chC cf cl zn 2)] := hD
    exact W.iret (v := (zn 1)) hx hb hr (fun t ht hW => ⟨⟨(zn 1), (), rfl, ⟨trivial, (by rw [← hRES, hE])⟩, ⟨by rw [ht]; exact hP9, va_K.moved hW.alike hK, hD9⟩⟩, hS.F ht⟩) hS.2.2 dX7_tell_78
  have hE := hE.trans (if_neg t_7_6)
  by_cases t_7_7 : n1 = 7
  · have hE := hE.trans (if_pos t_7_7)
    refine lv_tableIn (tgt := 79) (off := 78) hx hb dX7_tell_1 (by rw [t_7_7]; decide) (by rw [t_7_7]; decide) (by rw [t_7_7]; rfl) (by decide) ?_
    refine lv_aload_n hx hb dX7_tell_79 rfl (lv_at hl 0 rfl) ?_
    refine va_get (D := D) (ci := 7) (v := .ref r3) (C := RX7) (T := TX7) (N := 15) hx hb ha inlX7 hown hK hP 0 rfl rfl 7 (by decide) (ha _ kf_X7_34) (fun _ h9 => h9) rfl dX7_tell_80 ?_
    refine va_getN (D := D) (ci := 1) (v := .int (zn 2)) (C := RX1) (T := TX1) (N := 3) hx hb ha inlX1 hown hK hP 3 rfl rfl 2 (by decide) (va_Nw.use rfl (hN.f RX7 78 "CongestionBench$Chain" "size" "I" "CongestionBench" (by decide +kernel))) (fun _ h9 => h9) rfl dX7_tell_83 ?_
    have hP9 : va_P D vwCl [(r0, rdC ov (va_rf ol) r1 r2 r3 r4 r5), (r1, chC cf cl zn 0), (r2, chC cf cl zn 1), (r3, chC cf cl zn 2)] _ := hP
    have hD9 : va_D A [(r0, rdC ov (va_rf ol) r1 r2 r3 r4 r5), (r1, chC cf cl zn 0), (r2, chC cf cl zn 1), (r3, chC cf cl zn 2)] := hD
    exact W.iret (v := (zn 2)) hx hb hr (fun t ht hW => ⟨⟨(zn 2), (), rfl, ⟨trivial, (by rw [← hRES, hE])⟩, ⟨by rw [ht]; exact hP9, va_K.moved hW.alike hK, hD9⟩⟩, hS.F ht⟩) hS.2.2 dX7_tell_86
  have hE := hE.trans (if_neg t_7_7)
  by_cases t_7_8 : n1 = 8
  · have hE := hE.trans (if_pos t_7_8)
    refine lv_tableIn (tgt := 87) (off := 86) hx hb dX7_tell_1 (by rw [t_7_8]; decide) (by rw [t_7_8]; decide) (by rw [t_7_8]; rfl) (by decide) ?_
    refine lv_aload_n hx hb dX7_tell_87 rfl (lv_at hl 0 rfl) ?_
    refine va_get (D := D) (ci := 7) (v := va_rf ol) (C := RX7) (T := TX7) (N := 15) hx hb ha inlX7 hown hK hP 0 rfl rfl 4 (by decide) (ha _ kf_X7_54) (fun _ h9 => h9) rfl dX7_tell_88 ?_
    cases ol with
    | none =>
      have hE := om_none rfl hE
      have hP : va_P D vwCl [(r0, rdC ov .null r1 r2 r3 r4 r5), (r1, chC cf cl zn 0), (r2, chC cf cl zn 1), (r3, chC cf cl zn 2)] _ := hP
      have hD : va_D A [(r0, rdC ov .null r1 r2 r3 r4 r5), (r1, chC cf cl zn 0), (r2, chC cf cl zn 1), (r3, chC cf cl zn 2)] := hD
      refine lv_ifnonnullN hx hb dX7_tell_91 ?_
      refine lv_iconst (v := 0) hx hb dX7_tell_94 (by decide) ?_
      refine lv_goto (tgt := 99) hx hb dX7_tell_95 (by decide) ?_
      have hP9 : va_P D vwCl [(r0, rdC ov (va_rf none) r1 r2 r3 r4 r5), (r1, chC cf cl zn 0), (r2, chC cf cl zn 1), (r3, chC cf cl zn 2)] _ := hP
      have hD9 : va_D A [(r0, rdC ov (va_rf none) r1 r2 r3 r4 r5), (r1, chC cf cl zn 0), (r2, chC cf cl zn 1), (r3, chC cf cl zn 2)] := hD
      exact W.iret (v := 0) hx hb hr (fun t ht hW => ⟨⟨0, (), rfl, ⟨trivial, (by rw [← hRES, hE])⟩, ⟨by rw [ht]; exact hP9, va_K.moved hW.alike hK, hD9⟩⟩, hS.F ht⟩) hS.2.2 dX7_tell_99
    | some z_11 =>
      have hE := om_some rfl hE
      have hP : va_P D vwCl [(r0, rdC ov (.ref z_11) r1 r2 r3 r4 r5), (r1, chC cf cl zn 0), (r2, chC cf cl zn 1), (r3, chC cf cl zn 2)] _ := hP
      have hD : va_D A [(r0, rdC ov (.ref z_11) r1 r2 r3 r4 r5), (r1, chC cf cl zn 0), (r2, chC cf cl zn 1), (r3, chC cf cl zn 2)] := hD
      refine lv_ifnonnull (tgt := 98) hx hb dX7_tell_91 (by decide) ?_
      refine lv_iconst (v := 1) hx hb dX7_tell_98 (by decide) ?_
      have hP9 : va_P D vwCl [(r0, rdC ov (va_rf (some z_11)) r1 r2 r3 r4 r5), (r1, chC cf cl zn 0), (r2, chC cf cl zn 1), (r3, chC cf cl zn 2)] _ := hP
      have hD9 : va_D A [(r0, rdC ov (va_rf (some z_11)) r1 r2 r3 r4 r5), (r1, chC cf cl zn 0), (r2, chC cf cl zn 1), (r3, chC cf cl zn 2)] := hD
      exact W.iret (v := 1) hx hb hr (fun t ht hW => ⟨⟨1, (), rfl, ⟨trivial, (by rw [← hRES, hE])⟩, ⟨by rw [ht]; exact hP9, va_K.moved hW.alike hK, hD9⟩⟩, hS.F ht⟩) hS.2.2 dX7_tell_99
  have hE := hE.trans (if_neg t_7_8)
  by_cases t_7_9 : n1 = 9
  · have hE := hE.trans (if_pos t_7_9)
    refine lv_tableIn (tgt := 100) (off := 99) hx hb dX7_tell_1 (by rw [t_7_9]; decide) (by rw [t_7_9]; decide) (by rw [t_7_9]; rfl) (by decide) ?_
    refine lv_aload_n hx hb dX7_tell_100 rfl (lv_at hl 0 rfl) ?_
    refine va_get (D := D) (ci := 7) (v := .int (ov 14)) (C := RX7) (T := TX7) (N := 15) hx hb ha inlX7 hown hK hP 0 rfl rfl 14 (by decide) (ha _ kf_X7_132) (fun _ h9 => h9) rfl dX7_tell_101 ?_
    refine lv_topi (fun x_12 ex_12 => ?_)
    have hE := bd_at ex_12 hE
    have hP9 : va_P D vwCl [(r0, rdC ov (va_rf ol) r1 r2 r3 r4 r5), (r1, chC cf cl zn 0), (r2, chC cf cl zn 1), (r3, chC cf cl zn 2)] _ := hP
    have hD9 : va_D A [(r0, rdC ov (va_rf ol) r1 r2 r3 r4 r5), (r1, chC cf cl zn 0), (r2, chC cf cl zn 1), (r3, chC cf cl zn 2)] := hD
    exact W.iret (v := x_12) hx hb hr (fun t ht hW => ⟨⟨x_12, (), rfl, ⟨trivial, (by rw [← hRES, hE])⟩, ⟨by rw [ht]; exact hP9, va_K.moved hW.alike hK, hD9⟩⟩, hS.F ht⟩) hS.2.2 dX7_tell_104
  have hE := hE.trans (if_neg t_7_9)
  refine lv_tableOut (tgt := 105) hx hb dX7_tell_1 (by have h0 := lv_neT (a := 2) t_7_2 (by decide); have h1 := lv_neT (a := 3) t_7_3 (by decide); have h2 := lv_neT (a := 4) t_7_4 (by decide); have h3 := lv_neT (a := 5) t_7_5 (by decide); have h4 := lv_neT (a := 6) t_7_6 (by decide); have h5 := lv_neT (a := 7) t_7_7 (by decide); have h6 := lv_neT (a := 8) t_7_8 (by decide); have h7 := lv_neT (a := 9) t_7_9 (by decide); omega) (by decide) ?_
  refine lv_iconst (v := (-1)) hx hb dX7_tell_105 (by decide) ?_
  have hP9 : va_P D vwCl [(r0, rdC ov (va_rf ol) r1 r2 r3 r4 r5), (r1, chC cf cl zn 0), (r2, chC cf cl zn 1), (r3, chC cf cl zn 2)] _ := hP
  have hD9 : va_D A [(r0, rdC ov (va_rf ol) r1 r2 r3 r4 r5), (r1, chC cf cl zn 0), (r2, chC cf cl zn 1), (r3, chC cf cl zn 2)] := hD
  exact W.iret (v := (-1)) hx hb hr (fun t ht hW => ⟨⟨(-1), (), rfl, ⟨trivial, (by rw [← hRES, hE])⟩, ⟨by rw [ht]; exact hP9, va_K.moved hW.alike hK, hD9⟩⟩, hS.F ht⟩) hS.2.2 dX7_tell_106

def xc_link (ov : Nat → Int32) (a1 a2 a3 a4 : Int32) : Nat → Int32 := if wi a1 1 100 = 0 then ov else if wi a2 0 100 = 0 then ov else if wi a3 1 1000 = 0 then ov else if wi a4 1 1000 = 0 then ov else upd (upd (upd (upd ov 0 a1) 1 a2) 2 a3) 3 a4
set_option maxHeartbeats 4000000 in
set_option maxRecDepth 100000 in
theorem s_link (l : Launch) (D : va_G) (cI cJ cZ cO : ClassId) (sz : Nat) (b0 fl r0 r1 r2 r3 r4 r5 : Nat) (nw : Int32) (ov : Nat → Int32) (ol : Option Nat) (a1 a2 a3 a4 : Int32) (hT : 0 ≤ ov 10) (hLK : LK ov) : Met l yX10_link (wa yX10_link cX10_link 6 (some .boolean)) ({ frames := 1, cells := 0, slots := 0, locals := 24 }) (va_Pc [.ref b0, .int a1, .int a2, .int a3, .int a4] (pw_s D cI cJ cZ cO sz [(b0, cbC r0 fl nw), (r0, rdC ov (va_rf ol) r1 r2 r3 r4 r5)])) (va_Qi (fun (r : Int32) (_ : Unit) => r = lk a1 a2 a3 a4) (fun (_ : Unit) (t : State) => ∃ (ov2 : Nat → Int32), ((0 ≤ ov2 10 ∧ LK ov2) ∧ ov2 = (xc_link ov a1 a2 a3 a4)) ∧ pw_t D cI cJ cZ cO (va_A [(b0, cbC r0 fl nw), (r0, rdC ov (va_rf ol) r1 r2 r3 r4 r5)] sz) [(b0, cbC r0 fl nw), (r0, rdC ov2 (va_rf ol) r1 r2 r3 r4 r5)] t) (va_A [(b0, cbC r0 fl nw), (r0, rdC ov (va_rf ol) r1 r2 r3 r4 r5)] sz)) 0 0 (va_A [(b0, cbC r0 fl nw), (r0, rdC ov (va_rf ol) r1 r2 r3 r4 r5)] sz) := by
  refine Met.ofW (cc := cX10_link) (maxL := 6) (ret := (some .boolean)) (by decide) rfl ?_
  intro p e s m args below meth c s₁ B hml hv
  obtain ⟨rfl, hsz, hP, hK, hD0, hN⟩ := hv
  have hx := B.exec
  have hb := B.bytes
  have hr := B.returns
  have hts := atoms_spec (ws := (wa yX10_link cX10_link 6 (some .boolean))) B.pre
  have ha : ∀ w ∈ wsL_law, w.before _ s = true := fun w h => hts w (List.mem_cons_of_mem _ h)
  have hown : s.vm.findClass RX10 = some m.cls := findClass_of_methodNamed B.named
  have hlocks := B.notSynchronized
  subst hsz
  have hD := hD0.self (sz := s.heap.size)
  generalize hAe : va_A [(b0, cbC r0 fl nw), (r0, rdC ov (va_rf ol) r1 r2 r3 r4 r5)] s.heap.size = A at hD ⊢
  have hA : ∀ q : Nat, s.heap.size ≤ q → A q := fun q h => by rw [← hAe]; exact Or.inr h
  have hS : va_S A s.heap s.heap [] := va_S.rf
  have hP : va_P D vwCl [(b0, cbC r0 fl nw), (r0, rdC ov (va_rf ol) r1 r2 r3 r4 r5)] s.heap := hP
  have hl := lv_entry ([.ref b0, .int a1, .int a2, .int a3, .int a4]) (n := 6) (Nat.le_of_ble_eq_true rfl)
  rw [lg_entry_eq]
  generalize (lg_sl ([.ref b0, .int a1, .int a2, .int a3, .int a4]) ++ List.replicate (6 - (lg_sl ([.ref b0, .int a1, .int a2, .int a3, .int a4])).length) Slot.unset).toArray = ls at hl ⊢
  have hl : lv_has ls 6 [(0, .ref b0), (1, .int a1), (2, .int a2), (3, .int a3), (4, .int a4)] := hl
  obtain ⟨QP, hQP⟩ : ∃ y : State → Prop, y = (MQ below (va_Qi (fun (r : Int32) (_ : Unit) => r = lk a1 a2 a3 a4) (fun (_ : Unit) (t : State) => ∃ (ov2 : Nat → Int32), ((0 ≤ ov2 10 ∧ LK ov2) ∧ ov2 = (xc_link ov a1 a2 a3 a4)) ∧ pw_t D cI cJ cZ cO A [(b0, cbC r0 fl nw), (r0, rdC ov2 (va_rf ol) r1 r2 r3 r4 r5)] t) A) #[(.ref b0 : Value), (.int a1 : Value), (.int a2 : Value), (.int a3 : Value), (.int a4 : Value)] s 0 0 A) := ⟨_, rfl⟩
  obtain ⟨RES, hRES⟩ : ∃ y, y = (xc_link ov a1 a2 a3 a4) := ⟨_, rfl⟩
  -- from the entry
  have hE := hRES
  unfold xc_link at hE
  refine lv_iload_n hx hb dX10_link_0 rfl (lv_at hl 1 rfl) ?_
  refine lv_iconst (v := 1) hx hb dX10_link_1 (by decide) ?_
  refine lv_bipush (v := 100) hx hb dX10_link_2 (by decide) ?_
  have hPc := hP.sub (ws' := []) [] rfl
  have hDc := hD.sub (ws' := []) [] (by decide) rfl
  have hFc := va_free (wc := []) hD hS hA [] rfl
  refine va_calli (va_runS (As := [.int a1, .int 1, .int 100]) (rest := []) ⟨hx, hb, hml, hown, ha⟩ (c_within l D cI cJ cZ cO _ a1 1 100) (va_cwS 3 ha (gaS kl_X10_22 kt_X10_within kz_X10 kd_X10_within) rfl rfl rfl (by decide +kernel) ⟨Nat.le_of_ble_eq_true rfl, Nat.le_of_ble_eq_true rfl⟩) ⟨pw_blind, fun U hU hW => ⟨rfl, pw_start hU hW hPc hK hDc hN⟩⟩ rfl rfl hl.1 rfl (lv_room (Nat.le_of_ble_eq_true rfl)) dX10_link_4 ⟨Nat.le_of_ble_eq_true rfl, Nat.le_of_ble_eq_true rfl⟩) hS (fun q _ h => hFc q h) hFc (fun r_15 u t H1 locs ht hvm hw hB hz1 hk1 hS => ?_)
  obtain ⟨hP1, hK1, hD1⟩ := hB
  rw [ht] at hP1
  obtain ⟨hP, hD⟩ := va_join (wr := [(b0, cbC r0 fl nw), (r0, rdC ov (va_rf ol) r1 r2 r3 r4 r5)]) (w1 := []) hP hD [] [0, 1] rfl rfl (by decide) (by decide) hk1 hFc hP1 hD1
  generalize H1 = H at hP hS ⊢
  have hP : va_P D vwCl [(b0, cbC r0 fl nw), (r0, rdC ov (va_rf ol) r1 r2 r3 r4 r5)] H := hP
  have hD : va_D A [(b0, cbC r0 fl nw), (r0, rdC ov (va_rf ol) r1 r2 r3 r4 r5)] := hD
  refine W.widen (k := 0) (n := 0) (Nat.le_of_ble_eq_true rfl) (Nat.le_of_ble_eq_true rfl) ?_
  have hr_15 := hw
  subst hr_15
  refine lv_if_eq (tgt := 47) hx hb dX10_link_7 (by decide) (fun c_16 => ?_) (fun c_16 => ?_)
  · have hE := hE.trans (if_pos c_16)
    refine lv_iconst (v := 0) hx hb dX10_link_47 (by decide) ?_
    refine lv_istore (lv' := [(5, .int 0), (0, .ref b0), (1, .int a1), (2, .int a2), (3, .int a3), (4, .int a4)]) hx hb dX10_link_48 hl (by decide) rfl (fun ls hl => ?_)
    refine lv_iload hx hb dX10_link_50 (lv_at hl 0 rfl) ?_
    refine lv_if_eq (tgt := 67) hx hb dX10_link_52 (by decide) (fun c_17 => ?_) (fun c_17 => ?_)
    rotate_left
    · exact absurd (by decide) c_17
    refine lv_iload hx hb dX10_link_67 (lv_at hl 0 rfl) ?_
    have hP9 : va_P D vwCl [(b0, cbC r0 fl nw), (r0, rdC ov (va_rf ol) r1 r2 r3 r4 r5)] _ := hP
    have hD9 : va_D A [(b0, cbC r0 fl nw), (r0, rdC ov (va_rf ol) r1 r2 r3 r4 r5)] := hD
    exact W.zret (v := 0) hx hb hr rfl (fun t ht hW => ⟨⟨0, (), rfl, by simp [lk, c_16], ⟨ov, ⟨⟨hT, hLK⟩, (by rw [← hRES, hE])⟩, by rw [ht]; exact hP9, va_K.moved hW.alike hK, hD9⟩⟩, hS.F ht⟩) hS.2.2 dX10_link_69
  · have hE := hE.trans (if_neg c_16)
    refine lv_iload_n hx hb dX10_link_10 rfl (lv_at hl 2 rfl) ?_
    refine lv_iconst (v := 0) hx hb dX10_link_11 (by decide) ?_
    refine lv_bipush (v := 100) hx hb dX10_link_12 (by decide) ?_
    have hPc := hP.sub (ws' := []) [] rfl
    have hDc := hD.sub (ws' := []) [] (by decide) rfl
    have hFc := va_free (wc := []) hD hS hA [] rfl
    refine va_calli (va_runS (As := [.int a2, .int 0, .int 100]) (rest := []) ⟨hx, hb, hml, hown, ha⟩ (c_within l D cI cJ cZ cO _ a2 0 100) (va_cwS 3 ha (gaS kl_X10_22 kt_X10_within kz_X10 kd_X10_within) rfl rfl rfl (by decide +kernel) ⟨Nat.le_of_ble_eq_true rfl, Nat.le_of_ble_eq_true rfl⟩) ⟨pw_blind, fun U hU hW => ⟨rfl, pw_start hU hW hPc hK hDc hN⟩⟩ rfl rfl hl.1 rfl (lv_room (Nat.le_of_ble_eq_true rfl)) dX10_link_14 ⟨Nat.le_of_ble_eq_true rfl, Nat.le_of_ble_eq_true rfl⟩) hS (fun q _ h => hFc q h) hFc (fun r_18 u t H1 locs ht hvm hw hB hz1 hk1 hS => ?_)
    obtain ⟨hP1, hK1, hD1⟩ := hB
    rw [ht] at hP1
    obtain ⟨hP, hD⟩ := va_join (wr := [(b0, cbC r0 fl nw), (r0, rdC ov (va_rf ol) r1 r2 r3 r4 r5)]) (w1 := []) hP hD [] [0, 1] rfl rfl (by decide) (by decide) hk1 hFc hP1 hD1
    generalize H1 = H at hP hS ⊢
    have hP : va_P D vwCl [(b0, cbC r0 fl nw), (r0, rdC ov (va_rf ol) r1 r2 r3 r4 r5)] H := hP
    have hD : va_D A [(b0, cbC r0 fl nw), (r0, rdC ov (va_rf ol) r1 r2 r3 r4 r5)] := hD
    refine W.widen (k := 0) (n := 0) (Nat.le_of_ble_eq_true rfl) (Nat.le_of_ble_eq_true rfl) ?_
    have hr_18 := hw
    subst hr_18
    refine lv_if_eq (tgt := 47) hx hb dX10_link_17 (by decide) (fun c_19 => ?_) (fun c_19 => ?_)
    · have hE := hE.trans (if_pos c_19)
      refine lv_iconst (v := 0) hx hb dX10_link_47 (by decide) ?_
      refine lv_istore (lv' := [(5, .int 0), (0, .ref b0), (1, .int a1), (2, .int a2), (3, .int a3), (4, .int a4)]) hx hb dX10_link_48 hl (by decide) rfl (fun ls hl => ?_)
      refine lv_iload hx hb dX10_link_50 (lv_at hl 0 rfl) ?_
      refine lv_if_eq (tgt := 67) hx hb dX10_link_52 (by decide) (fun c_20 => ?_) (fun c_20 => ?_)
      rotate_left
      · exact absurd (by decide) c_20
      refine lv_iload hx hb dX10_link_67 (lv_at hl 0 rfl) ?_
      have hP9 : va_P D vwCl [(b0, cbC r0 fl nw), (r0, rdC ov (va_rf ol) r1 r2 r3 r4 r5)] _ := hP
      have hD9 : va_D A [(b0, cbC r0 fl nw), (r0, rdC ov (va_rf ol) r1 r2 r3 r4 r5)] := hD
      exact W.zret (v := 0) hx hb hr rfl (fun t ht hW => ⟨⟨0, (), rfl, by simp [lk, c_16, c_19], ⟨ov, ⟨⟨hT, hLK⟩, (by rw [← hRES, hE])⟩, by rw [ht]; exact hP9, va_K.moved hW.alike hK, hD9⟩⟩, hS.F ht⟩) hS.2.2 dX10_link_69
    · have hE := hE.trans (if_neg c_19)
      refine lv_iload_n hx hb dX10_link_20 rfl (lv_at hl 3 rfl) ?_
      refine lv_iconst (v := 1) hx hb dX10_link_21 (by decide) ?_
      refine lv_sipush (v := 1000) hx hb dX10_link_22 (by decide) ?_
      have hPc := hP.sub (ws' := []) [] rfl
      have hDc := hD.sub (ws' := []) [] (by decide) rfl
      have hFc := va_free (wc := []) hD hS hA [] rfl
      refine va_calli (va_runS (As := [.int a3, .int 1, .int 1000]) (rest := []) ⟨hx, hb, hml, hown, ha⟩ (c_within l D cI cJ cZ cO _ a3 1 1000) (va_cwS 3 ha (gaS kl_X10_22 kt_X10_within kz_X10 kd_X10_within) rfl rfl rfl (by decide +kernel) ⟨Nat.le_of_ble_eq_true rfl, Nat.le_of_ble_eq_true rfl⟩) ⟨pw_blind, fun U hU hW => ⟨rfl, pw_start hU hW hPc hK hDc hN⟩⟩ rfl rfl hl.1 rfl (lv_room (Nat.le_of_ble_eq_true rfl)) dX10_link_25 ⟨Nat.le_of_ble_eq_true rfl, Nat.le_of_ble_eq_true rfl⟩) hS (fun q _ h => hFc q h) hFc (fun r_21 u t H1 locs ht hvm hw hB hz1 hk1 hS => ?_)
      obtain ⟨hP1, hK1, hD1⟩ := hB
      rw [ht] at hP1
      obtain ⟨hP, hD⟩ := va_join (wr := [(b0, cbC r0 fl nw), (r0, rdC ov (va_rf ol) r1 r2 r3 r4 r5)]) (w1 := []) hP hD [] [0, 1] rfl rfl (by decide) (by decide) hk1 hFc hP1 hD1
      generalize H1 = H at hP hS ⊢
      have hP : va_P D vwCl [(b0, cbC r0 fl nw), (r0, rdC ov (va_rf ol) r1 r2 r3 r4 r5)] H := hP
      have hD : va_D A [(b0, cbC r0 fl nw), (r0, rdC ov (va_rf ol) r1 r2 r3 r4 r5)] := hD
      refine W.widen (k := 0) (n := 0) (Nat.le_of_ble_eq_true rfl) (Nat.le_of_ble_eq_true rfl) ?_
      have hr_21 := hw
      subst hr_21
      refine lv_if_eq (tgt := 47) hx hb dX10_link_28 (by decide) (fun c_22 => ?_) (fun c_22 => ?_)
      · have hE := hE.trans (if_pos c_22)
        refine lv_iconst (v := 0) hx hb dX10_link_47 (by decide) ?_
        refine lv_istore (lv' := [(5, .int 0), (0, .ref b0), (1, .int a1), (2, .int a2), (3, .int a3), (4, .int a4)]) hx hb dX10_link_48 hl (by decide) rfl (fun ls hl => ?_)
        refine lv_iload hx hb dX10_link_50 (lv_at hl 0 rfl) ?_
        refine lv_if_eq (tgt := 67) hx hb dX10_link_52 (by decide) (fun c_23 => ?_) (fun c_23 => ?_)
        rotate_left
        · exact absurd (by decide) c_23
        refine lv_iload hx hb dX10_link_67 (lv_at hl 0 rfl) ?_
        have hP9 : va_P D vwCl [(b0, cbC r0 fl nw), (r0, rdC ov (va_rf ol) r1 r2 r3 r4 r5)] _ := hP
        have hD9 : va_D A [(b0, cbC r0 fl nw), (r0, rdC ov (va_rf ol) r1 r2 r3 r4 r5)] := hD
        exact W.zret (v := 0) hx hb hr rfl (fun t ht hW => ⟨⟨0, (), rfl, by simp [lk, c_16, c_19, c_22], ⟨ov, ⟨⟨hT, hLK⟩, (by rw [← hRES, hE])⟩, by rw [ht]; exact hP9, va_K.moved hW.alike hK, hD9⟩⟩, hS.F ht⟩) hS.2.2 dX10_link_69
      · have hE := hE.trans (if_neg c_22)
        refine lv_iload hx hb dX10_link_31 (lv_at hl 4 rfl) ?_
        refine lv_iconst (v := 1) hx hb dX10_link_33 (by decide) ?_
        refine lv_sipush (v := 1000) hx hb dX10_link_34 (by decide) ?_
        have hPc := hP.sub (ws' := []) [] rfl
        have hDc := hD.sub (ws' := []) [] (by decide) rfl
        have hFc := va_free (wc := []) hD hS hA [] rfl
        refine va_calli (va_runS (As := [.int a4, .int 1, .int 1000]) (rest := []) ⟨hx, hb, hml, hown, ha⟩ (c_within l D cI cJ cZ cO _ a4 1 1000) (va_cwS 3 ha (gaS kl_X10_22 kt_X10_within kz_X10 kd_X10_within) rfl rfl rfl (by decide +kernel) ⟨Nat.le_of_ble_eq_true rfl, Nat.le_of_ble_eq_true rfl⟩) ⟨pw_blind, fun U hU hW => ⟨rfl, pw_start hU hW hPc hK hDc hN⟩⟩ rfl rfl hl.1 rfl (lv_room (Nat.le_of_ble_eq_true rfl)) dX10_link_37 ⟨Nat.le_of_ble_eq_true rfl, Nat.le_of_ble_eq_true rfl⟩) hS (fun q _ h => hFc q h) hFc (fun r_24 u t H1 locs ht hvm hw hB hz1 hk1 hS => ?_)
        obtain ⟨hP1, hK1, hD1⟩ := hB
        rw [ht] at hP1
        obtain ⟨hP, hD⟩ := va_join (wr := [(b0, cbC r0 fl nw), (r0, rdC ov (va_rf ol) r1 r2 r3 r4 r5)]) (w1 := []) hP hD [] [0, 1] rfl rfl (by decide) (by decide) hk1 hFc hP1 hD1
        generalize H1 = H at hP hS ⊢
        have hP : va_P D vwCl [(b0, cbC r0 fl nw), (r0, rdC ov (va_rf ol) r1 r2 r3 r4 r5)] H := hP
        have hD : va_D A [(b0, cbC r0 fl nw), (r0, rdC ov (va_rf ol) r1 r2 r3 r4 r5)] := hD
        refine W.widen (k := 0) (n := 0) (Nat.le_of_ble_eq_true rfl) (Nat.le_of_ble_eq_true rfl) ?_
        have hr_24 := hw
        subst hr_24
        refine lv_if_eq (tgt := 47) hx hb dX10_link_40 (by decide) (fun c_25 => ?_) (fun c_25 => ?_)
        · have hE := hE.trans (if_pos c_25)
          refine lv_iconst (v := 0) hx hb dX10_link_47 (by decide) ?_
          refine lv_istore (lv' := [(5, .int 0), (0, .ref b0), (1, .int a1), (2, .int a2), (3, .int a3), (4, .int a4)]) hx hb dX10_link_48 hl (by decide) rfl (fun ls hl => ?_)
          refine lv_iload hx hb dX10_link_50 (lv_at hl 0 rfl) ?_
          refine lv_if_eq (tgt := 67) hx hb dX10_link_52 (by decide) (fun c_26 => ?_) (fun c_26 => ?_)
          rotate_left
          · exact absurd (by decide) c_26
          refine lv_iload hx hb dX10_link_67 (lv_at hl 0 rfl) ?_
          have hP9 : va_P D vwCl [(b0, cbC r0 fl nw), (r0, rdC ov (va_rf ol) r1 r2 r3 r4 r5)] _ := hP
          have hD9 : va_D A [(b0, cbC r0 fl nw), (r0, rdC ov (va_rf ol) r1 r2 r3 r4 r5)] := hD
          exact W.zret (v := 0) hx hb hr rfl (fun t ht hW => ⟨⟨0, (), rfl, by simp [lk, c_16, c_19, c_22, c_25], ⟨ov, ⟨⟨hT, hLK⟩, (by rw [← hRES, hE])⟩, by rw [ht]; exact hP9, va_K.moved hW.alike hK, hD9⟩⟩, hS.F ht⟩) hS.2.2 dX10_link_69
        · have hE := hE.trans (if_neg c_25)
          refine lv_iconst (v := 1) hx hb dX10_link_43 (by decide) ?_
          refine lv_goto (tgt := 48) hx hb dX10_link_44 (by decide) ?_
          refine lv_istore (lv' := [(5, .int 1), (0, .ref b0), (1, .int a1), (2, .int a2), (3, .int a3), (4, .int a4)]) hx hb dX10_link_48 hl (by decide) rfl (fun ls hl => ?_)
          refine lv_iload hx hb dX10_link_50 (lv_at hl 0 rfl) ?_
          refine lv_if_eq (tgt := 67) hx hb dX10_link_52 (by decide) (fun c_27 => ?_) (fun c_27 => ?_)
          · exact absurd c_27 (by decide)
          refine lv_aload_n hx hb dX10_link_55 rfl (lv_at hl 1 rfl) ?_
          refine va_get (D := D) (ci := 10) (v := .ref r0) (C := RX10) (T := TX10) (N := 3) hx hb ha inlX10 hown hK hP 0 rfl rfl 0 (by decide) (ha _ kf_X10_10) (fun _ h9 => h9) rfl dX10_link_56 ?_
          refine lv_iload_n hx hb dX10_link_59 rfl (lv_at hl 2 rfl) ?_
          refine lv_iload_n hx hb dX10_link_60 rfl (lv_at hl 3 rfl) ?_
          refine lv_iload_n hx hb dX10_link_61 rfl (lv_at hl 4 rfl) ?_
          refine lv_iload hx hb dX10_link_62 (lv_at hl 5 rfl) ?_
          have hPc := hP.sub (ws' := [(r0, rdC ov (va_rf ol) r1 r2 r3 r4 r5)]) [1] rfl
          have hDc := hD.sub (ws' := [(r0, rdC ov (va_rf ol) r1 r2 r3 r4 r5)]) [1] (by decide) rfl
          have hFc := va_free (wc := [(r0, rdC ov (va_rf ol) r1 r2 r3 r4 r5)]) hD hS hA [1] rfl
          refine va_callv (va_runV (As := [.int a1, .int a2, .int a3, .int a4]) (rest := []) ⟨hx, hb, hml, hown, ha⟩ (s_set l D cI cJ cZ cO _ r0 r1 r2 r3 r4 r5 ov ol a1 a2 a3 a4) (cwV 4 ha (gaV kl_X10_26 km_X7_set ks_X7_set kz_X7 kd_X7_set) rfl rfl rfl (by decide +kernel) ⟨Nat.le_of_ble_eq_true rfl, Nat.le_of_ble_eq_true rfl⟩) ⟨pw_blind, va_recv hK hPc (ci := 7) (q0 := 0) rfl rfl, fun U hU hW => ⟨rfl, pw_start hU hW hPc hK hDc hN⟩⟩ rfl rfl hl.1 rfl (lv_room (Nat.le_of_ble_eq_true rfl)) dX10_link_64 ⟨Nat.le_of_ble_eq_true rfl, Nat.le_of_ble_eq_true rfl⟩) hS (fun q _ h => hFc q h) hFc (fun u t H1 locs ht hvm hw hB hz1 hk1 hS => ?_)
          obtain ⟨hP1, hK1, hD1⟩ := hB
          rw [ht] at hP1
          obtain ⟨hP, hD⟩ := va_join (wr := [(b0, cbC r0 fl nw)]) (w1 := [(r0, .inr (7, [.int ((upd (upd (upd (upd ov 0 a1) 1 a2) 2 a3) 3 a4) 0), .int ((upd (upd (upd (upd ov 0 a1) 1 a2) 2 a3) 3 a4) 1), .int ((upd (upd (upd (upd ov 0 a1) 1 a2) 2 a3) 3 a4) 2), .int ((upd (upd (upd (upd ov 0 a1) 1 a2) 2 a3) 3 a4) 3), va_rf ol, .ref r1, .ref r2, .ref r3, .ref r4, .ref r5, .int ((upd (upd (upd (upd ov 0 a1) 1 a2) 2 a3) 3 a4) 10), .int ((upd (upd (upd (upd ov 0 a1) 1 a2) 2 a3) 3 a4) 11), .int ((upd (upd (upd (upd ov 0 a1) 1 a2) 2 a3) 3 a4) 12), .int ((upd (upd (upd (upd ov 0 a1) 1 a2) 2 a3) 3 a4) 13), .int ((upd (upd (upd (upd ov 0 a1) 1 a2) 2 a3) 3 a4) 14)]))]) hP hD [1] [0] rfl rfl (by decide) (by decide) hk1 hFc hP1 hD1
          generalize H1 = H at hP hS ⊢
          have hP : va_P D vwCl [(b0, cbC r0 fl nw), (r0, .inr (7, [.int ((upd (upd (upd (upd ov 0 a1) 1 a2) 2 a3) 3 a4) 0), .int ((upd (upd (upd (upd ov 0 a1) 1 a2) 2 a3) 3 a4) 1), .int ((upd (upd (upd (upd ov 0 a1) 1 a2) 2 a3) 3 a4) 2), .int ((upd (upd (upd (upd ov 0 a1) 1 a2) 2 a3) 3 a4) 3), va_rf ol, .ref r1, .ref r2, .ref r3, .ref r4, .ref r5, .int ((upd (upd (upd (upd ov 0 a1) 1 a2) 2 a3) 3 a4) 10), .int ((upd (upd (upd (upd ov 0 a1) 1 a2) 2 a3) 3 a4) 11), .int ((upd (upd (upd (upd ov 0 a1) 1 a2) 2 a3) 3 a4) 12), .int ((upd (upd (upd (upd ov 0 a1) 1 a2) 2 a3) 3 a4) 13), .int ((upd (upd (upd (upd ov 0 a1) 1 a2) 2 a3) 3 a4) 14)]))] H := hP
          have hD : va_D A [(b0, cbC r0 fl nw), (r0, .inr (7, [.int ((upd (upd (upd (upd ov 0 a1) 1 a2) 2 a3) 3 a4) 0), .int ((upd (upd (upd (upd ov 0 a1) 1 a2) 2 a3) 3 a4) 1), .int ((upd (upd (upd (upd ov 0 a1) 1 a2) 2 a3) 3 a4) 2), .int ((upd (upd (upd (upd ov 0 a1) 1 a2) 2 a3) 3 a4) 3), va_rf ol, .ref r1, .ref r2, .ref r3, .ref r4, .ref r5, .int ((upd (upd (upd (upd ov 0 a1) 1 a2) 2 a3) 3 a4) 10), .int ((upd (upd (upd (upd ov 0 a1) 1 a2) 2 a3) 3 a4) 11), .int ((upd (upd (upd (upd ov 0 a1) 1 a2) 2 a3) 3 a4) 12), .int ((upd (upd (upd (upd ov 0 a1) 1 a2) 2 a3) 3 a4) 13), .int ((upd (upd (upd (upd ov 0 a1) 1 a2) 2 a3) 3 a4) 14)]))] := hD
          refine W.widen (k := 0) (n := 0) (Nat.le_of_ble_eq_true rfl) (Nat.le_of_ble_eq_true rfl) ?_
          refine lv_iload hx hb dX10_link_67 (lv_at hl 0 rfl) ?_
          have hP9 : va_P D vwCl [(b0, cbC r0 fl nw), (r0, .inr (7, [.int ((upd (upd (upd (upd ov 0 a1) 1 a2) 2 a3) 3 a4) 0), .int ((upd (upd (upd (upd ov 0 a1) 1 a2) 2 a3) 3 a4) 1), .int ((upd (upd (upd (upd ov 0 a1) 1 a2) 2 a3) 3 a4) 2), .int ((upd (upd (upd (upd ov 0 a1) 1 a2) 2 a3) 3 a4) 3), va_rf ol, .ref r1, .ref r2, .ref r3, .ref r4, .ref r5, .int ((upd (upd (upd (upd ov 0 a1) 1 a2) 2 a3) 3 a4) 10), .int ((upd (upd (upd (upd ov 0 a1) 1 a2) 2 a3) 3 a4) 11), .int ((upd (upd (upd (upd ov 0 a1) 1 a2) 2 a3) 3 a4) 12), .int ((upd (upd (upd (upd ov 0 a1) 1 a2) 2 a3) 3 a4) 13), .int ((upd (upd (upd (upd ov 0 a1) 1 a2) 2 a3) 3 a4) 14)]))] _ := hP
          have hD9 : va_D A [(b0, cbC r0 fl nw), (r0, .inr (7, [.int ((upd (upd (upd (upd ov 0 a1) 1 a2) 2 a3) 3 a4) 0), .int ((upd (upd (upd (upd ov 0 a1) 1 a2) 2 a3) 3 a4) 1), .int ((upd (upd (upd (upd ov 0 a1) 1 a2) 2 a3) 3 a4) 2), .int ((upd (upd (upd (upd ov 0 a1) 1 a2) 2 a3) 3 a4) 3), va_rf ol, .ref r1, .ref r2, .ref r3, .ref r4, .ref r5, .int ((upd (upd (upd (upd ov 0 a1) 1 a2) 2 a3) 3 a4) 10), .int ((upd (upd (upd (upd ov 0 a1) 1 a2) 2 a3) 3 a4) 11), .int ((upd (upd (upd (upd ov 0 a1) 1 a2) 2 a3) 3 a4) 12), .int ((upd (upd (upd (upd ov 0 a1) 1 a2) 2 a3) 3 a4) 13), .int ((upd (upd (upd (upd ov 0 a1) 1 a2) 2 a3) 3 a4) 14)]))] := hD
          exact W.zret (v := 1) hx hb hr rfl (fun t ht hW => ⟨⟨1, (), rfl, by simp [lk, c_16, c_19, c_22, c_25], ⟨(upd (upd (upd (upd ov 0 a1) 1 a2) 2 a3) 3 a4), ⟨⟨hT, lk_LK c_19 c_22 c_25⟩, (by rw [← hRES, hE])⟩, by rw [ht]; exact hP9, va_K.moved hW.alike hK, hD9⟩⟩, hS.F ht⟩) hS.2.2 dX10_link_69

set_option maxRecDepth 100000 in
def xc_lose (ov : Nat → Int32) (tf : Nat → Int32) (n : Int32) : (Nat → Int32) × (Nat → Int32) × Int32 := bd (xc_tellLost2 ov tf n) (fun t1 => bd (t1.1) (fun ov => bd (t1.2.1) (fun tf => bd (t1.2.2) (fun v2 => (ov, tf, v2)))))
set_option maxHeartbeats 4000000 in
set_option maxRecDepth 100000 in
theorem s_lose (l : Launch) (D : va_G) (cI cJ cZ cO : ClassId) (sz : Nat) (b0 fl : Nat) (nw : Int32) (r0 r1 r2 r3 r4 r5 : Nat) (ov tf : Nat → Int32) (ol : Option Nat) (n : Int32) (hT : 0 ≤ ov 10) : Met l yX10_lose (wa yX10_lose cX10_lose 2 (some .boolean)) ({ frames := 2, cells := 0, slots := 0, locals := 43 }) (va_Pc [.ref b0, .int n] (pw_s D cI cJ cZ cO sz [(b0, cbC r0 fl nw), (r0, rdC ov (va_rf ol) r1 r2 r3 r4 r5), (r5, tlC cI tf)])) (va_Qi (fun (r : Int32) (_ : Unit) => ((True) ∧ r = (xc_lose ov tf n).2.2)) (fun (_ : Unit) (t : State) => ∃ (ov2 tf2 : Nat → Int32), ((0 ≤ ov2 10 ∧ (ov2 1 = ov 1 ∧ ov2 2 = ov 2 ∧ ov2 3 = ov 3)) ∧ ov2 = (xc_lose ov tf n).1 ∧ tf2 = (xc_lose ov tf n).2.1) ∧ pw_t D cI cJ cZ cO (va_A [(b0, cbC r0 fl nw), (r0, rdC ov (va_rf ol) r1 r2 r3 r4 r5), (r5, tlC cI tf)] sz) [(b0, cbC r0 fl nw), (r0, rdC ov2 (va_rf ol) r1 r2 r3 r4 r5), (r5, tlC cI tf2)] t) (va_A [(b0, cbC r0 fl nw), (r0, rdC ov (va_rf ol) r1 r2 r3 r4 r5), (r5, tlC cI tf)] sz)) 0 0 (va_A [(b0, cbC r0 fl nw), (r0, rdC ov (va_rf ol) r1 r2 r3 r4 r5), (r5, tlC cI tf)] sz) := by
  refine Met.ofW (cc := cX10_lose) (maxL := 2) (ret := (some .boolean)) (by decide) rfl ?_
  intro p e s m args below meth c s₁ B hml hv
  obtain ⟨rfl, hsz, hP, hK, hD0, hN⟩ := hv
  have hx := B.exec
  have hb := B.bytes
  have hr := B.returns
  have hts := atoms_spec (ws := (wa yX10_lose cX10_lose 2 (some .boolean))) B.pre
  have ha : ∀ w ∈ wsL_law, w.before _ s = true := fun w h => hts w (List.mem_cons_of_mem _ h)
  have hown : s.vm.findClass RX10 = some m.cls := findClass_of_methodNamed B.named
  have hlocks := B.notSynchronized
  subst hsz
  have hD := hD0.self (sz := s.heap.size)
  generalize hAe : va_A [(b0, cbC r0 fl nw), (r0, rdC ov (va_rf ol) r1 r2 r3 r4 r5), (r5, tlC cI tf)] s.heap.size = A at hD ⊢
  have hA : ∀ q : Nat, s.heap.size ≤ q → A q := fun q h => by rw [← hAe]; exact Or.inr h
  have hS : va_S A s.heap s.heap [] := va_S.rf
  have hP : va_P D vwCl [(b0, cbC r0 fl nw), (r0, rdC ov (va_rf ol) r1 r2 r3 r4 r5), (r5, tlC cI tf)] s.heap := hP
  have hl := lv_entry ([.ref b0, .int n]) (n := 2) (Nat.le_of_ble_eq_true rfl)
  rw [lg_entry_eq]
  generalize (lg_sl ([.ref b0, .int n]) ++ List.replicate (2 - (lg_sl ([.ref b0, .int n])).length) Slot.unset).toArray = ls at hl ⊢
  have hl : lv_has ls 2 [(0, .ref b0), (1, .int n)] := hl
  obtain ⟨QP, hQP⟩ : ∃ y : State → Prop, y = (MQ below (va_Qi (fun (r : Int32) (_ : Unit) => ((True) ∧ r = (xc_lose ov tf n).2.2)) (fun (_ : Unit) (t : State) => ∃ (ov2 tf2 : Nat → Int32), ((0 ≤ ov2 10 ∧ (ov2 1 = ov 1 ∧ ov2 2 = ov 2 ∧ ov2 3 = ov 3)) ∧ ov2 = (xc_lose ov tf n).1 ∧ tf2 = (xc_lose ov tf n).2.1) ∧ pw_t D cI cJ cZ cO A [(b0, cbC r0 fl nw), (r0, rdC ov2 (va_rf ol) r1 r2 r3 r4 r5), (r5, tlC cI tf2)] t) A) #[(.ref b0 : Value), (.int n : Value)] s 0 0 A) := ⟨_, rfl⟩
  obtain ⟨RES, hRES⟩ : ∃ y, y = (xc_lose ov tf n) := ⟨_, rfl⟩
  -- from the entry
  have hE := hRES
  unfold xc_lose at hE
  refine lv_aload_n hx hb dX10_lose_0 rfl (lv_at hl 0 rfl) ?_
  refine va_get (D := D) (ci := 10) (v := .ref r0) (C := RX10) (T := TX10) (N := 3) hx hb ha inlX10 hown hK hP 0 rfl rfl 0 (by decide) (ha _ kf_X10_10) (fun _ h9 => h9) rfl dX10_lose_1 ?_
  refine lv_iload_n hx hb dX10_lose_4 rfl (lv_at hl 1 rfl) ?_
  have hPc := hP.sub (ws' := [(r0, rdC ov (va_rf ol) r1 r2 r3 r4 r5), (r5, tlC cI tf)]) [1, 2] rfl
  have hDc := hD.sub (ws' := [(r0, rdC ov (va_rf ol) r1 r2 r3 r4 r5), (r5, tlC cI tf)]) [1, 2] (by decide) rfl
  have hFc := va_free (wc := [(r0, rdC ov (va_rf ol) r1 r2 r3 r4 r5), (r5, tlC cI tf)]) hD hS hA [1, 2] rfl
  refine va_calli (va_runV (As := [.int n]) (rest := []) ⟨hx, hb, hml, hown, ha⟩ (s_tellLost2 l D cI cJ cZ cO _ r0 r1 r2 r3 r4 r5 ov tf ol n hT) (cwV 1 ha (gaV kl_X10_57 km_X7_tellLost ks_X7_tellLost kz_X7 kd_X7_tellLost) rfl rfl rfl (by decide +kernel) ⟨Nat.le_of_ble_eq_true rfl, Nat.le_of_ble_eq_true rfl⟩) ⟨pw_blind, va_recv hK hPc (ci := 7) (q0 := 0) rfl rfl, fun U hU hW => ⟨rfl, pw_start hU hW hPc hK hDc hN⟩⟩ rfl rfl hl.1 rfl (lv_room (Nat.le_of_ble_eq_true rfl)) dX10_lose_5 ⟨Nat.le_of_ble_eq_true rfl, Nat.le_of_ble_eq_true rfl⟩) hS (fun q _ h => hFc q h) hFc (fun r_5 u t H1 locs ht hvm hw hB hz1 hk1 hS => ?_)
  obtain ⟨ov, tf, ⟨hf_8, hX0, hX1⟩, hP1, hK1, hD1⟩ := hB
  have hE := bd_at rfl hE
  have hE := bd_at hX0 hE
  have hE := bd_at hX1 hE
  have hE := bd_at hw.2 hE
  rw [ht] at hP1
  obtain ⟨hP, hD⟩ := va_join (wr := [(b0, cbC r0 fl nw)]) (w1 := [(r0, rdC ov (va_rf ol) r1 r2 r3 r4 r5), (r5, tlC cI tf)]) hP hD [1, 2] [0] rfl rfl (by decide) (by decide) hk1 hFc hP1 hD1
  generalize H1 = H at hP hS ⊢
  have hP : va_P D vwCl [(b0, cbC r0 fl nw), (r0, rdC ov (va_rf ol) r1 r2 r3 r4 r5), (r5, tlC cI tf)] H := hP
  have hD : va_D A [(b0, cbC r0 fl nw), (r0, rdC ov (va_rf ol) r1 r2 r3 r4 r5), (r5, tlC cI tf)] := hD
  refine W.widen (k := 0) (n := 0) (Nat.le_of_ble_eq_true rfl) (Nat.le_of_ble_eq_true rfl) ?_
  have hr_5 := hw.1
  have hP9 : va_P D vwCl [(b0, cbC r0 fl nw), (r0, rdC ov (va_rf ol) r1 r2 r3 r4 r5), (r5, tlC cI tf)] _ := hP
  have hD9 : va_D A [(b0, cbC r0 fl nw), (r0, rdC ov (va_rf ol) r1 r2 r3 r4 r5), (r5, tlC cI tf)] := hD
  exact W.zret (v := r_5) hx hb hr (by rcases hr_5 with h9 | h9 <;> rw [h9] <;> rfl) (fun t ht hW => ⟨⟨r_5, (), rfl, ⟨trivial, (by rw [← hRES, hE])⟩, ⟨ov, tf, ⟨hf_8, (by rw [← hRES, hE]), (by rw [← hRES, hE])⟩, by rw [ht]; exact hP9, va_K.moved hW.alike hK, hD9⟩⟩, hS.F ht⟩) hS.2.2 dX10_lose_8

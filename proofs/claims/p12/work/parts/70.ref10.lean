set_option maxRecDepth 100000 in
def x_link (a1 : Int32) (a2 : Int32) (a3 : Int32) (a4 : Int32) (mi : Nat → Int32) (ma : Nat → Nat → Int32) : XT := bd (wi a1 (1 : Int32) (100 : Int32)) (fun v1 => (if v1 = (0 : Int32) then (mi, ma, (0 : Int32)) else bd (wi a2 (0 : Int32) (100 : Int32)) (fun v2 => (if v2 = (0 : Int32) then (mi, ma, (0 : Int32)) else bd (wi a3 (1 : Int32) (1000 : Int32)) (fun v3 => (if v3 = (0 : Int32) then (mi, ma, (0 : Int32)) else bd (wi a4 (1 : Int32) (1000 : Int32)) (fun v4 => (if v4 = (0 : Int32) then (mi, ma, (0 : Int32)) else bd (upd mi 0 a1) (fun m5 => bd (upd m5 1 a2) (fun m6 => bd (upd m6 2 a3) (fun m7 => bd (upd m7 3 a4) (fun m8 => (m8, ma, (1 : Int32))))))))))))))
set_option maxHeartbeats 4000000 in
set_option maxRecDepth 100000 in
theorem m_link (l : Launch) (D : va_G) (cI cJ cZ cO : ClassId) (sz : Nat) (h0 : Nat) (mq : Nat → Nat) (mi : Nat → Int32) (ma : Nat → Nat → Int32) (ph : Nat) (cl : Int) (a1 a2 a3 a4 : Int32) (hI : MI ph cl mi ma) : Met l yX11_link (wa yX11_link cX11_link 5 (some .boolean)) ({ frames := 1, cells := 0, slots := 0, locals := 22 }) (va_Pc [.ref h0, .int a1, .int a2, .int a3, .int a4] (pw_s D cI cJ cZ cO sz (mw cI cZ h0 mq mi ma))) (va_Qi (fun (r : Int32) (_ : Unit) => ((r = lk a1 a2 a3 a4) ∧ r = (x_link a1 a2 a3 a4 mi ma).2.2)) (fun (_ : Unit) (t : State) => ∃ (mi2 : Nat → Int32) (ma2 : Nat → Nat → Int32), ((MI ph cl mi2 ma2 ∧ (∀ k, k ∉ ([0, 1, 2, 3] : List Nat) → mi2 k = mi k) ∧ (∀ k, k ∉ ([] : List Nat) → ma2 k = ma k)) ∧ mi2 = (x_link a1 a2 a3 a4 mi ma).1 ∧ ma2 = (x_link a1 a2 a3 a4 mi ma).2.1) ∧ pw_t D cI cJ cZ cO (va_A (mw cI cZ h0 mq mi ma) sz) (mw cI cZ h0 mq mi2 ma2) t) (va_A (mw cI cZ h0 mq mi ma) sz)) 0 0 (va_A (mw cI cZ h0 mq mi ma) sz) := by
  refine Met.ofW (cc := cX11_link) (maxL := 5) (ret := (some .boolean)) (by decide) rfl ?_
  intro p e s m args below meth c s₁ B hml hv
  obtain ⟨rfl, hsz, hP, hK, hD0, hN⟩ := hv
  have hx := B.exec
  have hb := B.bytes
  have hr := B.returns
  have hts := atoms_spec (ws := (wa yX11_link cX11_link 5 (some .boolean))) B.pre
  have ha : ∀ w ∈ wsL_law, w.before _ s = true := fun w h => hts w (List.mem_cons_of_mem _ h)
  have hown : s.vm.findClass RX11 = some m.cls := findClass_of_methodNamed B.named
  have hlocks := B.notSynchronized
  subst hsz
  have hD := hD0.self (sz := s.heap.size)
  generalize hAe : va_A (mw cI cZ h0 mq mi ma) s.heap.size = A at hD ⊢
  have hA : ∀ q : Nat, s.heap.size ≤ q → A q := fun q h => by rw [← hAe]; exact Or.inr h
  have hS : va_S A s.heap s.heap [] := va_S.rf
  have hP : va_P D vwCl (mw cI cZ h0 mq mi ma) s.heap := hP
  have hl := lv_entry ([.ref h0, .int a1, .int a2, .int a3, .int a4]) (n := 5) (Nat.le_of_ble_eq_true rfl)
  rw [lg_entry_eq]
  generalize (lg_sl ([.ref h0, .int a1, .int a2, .int a3, .int a4]) ++ List.replicate (5 - (lg_sl ([.ref h0, .int a1, .int a2, .int a3, .int a4])).length) Slot.unset).toArray = ls at hl ⊢
  have hl : lv_has ls 5 [(0, .ref h0), (1, .int a1), (2, .int a2), (3, .int a3), (4, .int a4)] := hl
  have kc_m1 := tk_m1
  have kc_0 := tk_0
  have kc_1 := tk_1
  have kc_100 := tk_100
  have kc_1000 := tk_1000
  obtain ⟨mi0, hmi0⟩ : ∃ y, y = mi := ⟨_, rfl⟩
  obtain ⟨ma0, hma0⟩ : ∃ y, y = ma := ⟨_, rfl⟩
  have hFI : ∀ k, k ∉ ([0, 1, 2, 3] : List Nat) → mi k = mi0 k := fun k _ => by rw [hmi0]
  have hFA : ∀ k, k ∉ ([] : List Nat) → ma k = ma0 k := fun k _ => by rw [hma0]
  obtain ⟨QP, hQP⟩ : ∃ y : State → Prop, y = (MQ below (va_Qi (fun (r : Int32) (_ : Unit) => ((r = lk a1 a2 a3 a4) ∧ r = (x_link a1 a2 a3 a4 mi ma).2.2)) (fun (_ : Unit) (t : State) => ∃ (mi2 : Nat → Int32) (ma2 : Nat → Nat → Int32), ((MI ph cl mi2 ma2 ∧ (∀ k, k ∉ ([0, 1, 2, 3] : List Nat) → mi2 k = mi k) ∧ (∀ k, k ∉ ([] : List Nat) → ma2 k = ma k)) ∧ mi2 = (x_link a1 a2 a3 a4 mi ma).1 ∧ ma2 = (x_link a1 a2 a3 a4 mi ma).2.1) ∧ pw_t D cI cJ cZ cO A (mw cI cZ h0 mq mi2 ma2) t) A) #[(.ref h0 : Value), (.int a1 : Value), (.int a2 : Value), (.int a3 : Value), (.int a4 : Value)] s 0 0 A) := ⟨_, rfl⟩
  obtain ⟨RES, hRES⟩ : ∃ y, y = (x_link a1 a2 a3 a4 mi ma) := ⟨_, rfl⟩
  -- from the entry
  have hE := hRES
  unfold x_link at hE
  refine lv_iload_n hx hb dX11_link_0 rfl (lv_at hl 1 rfl) ?_
  refine lv_iconst (v := 1) hx hb dX11_link_1 (by decide) ?_
  refine lv_bipush (v := 100) hx hb dX11_link_2 (by decide) ?_
  have hFc := va_free (wc := []) hD hS hA [] rfl
  refine va_calli (va_runS (As := [.int a1, .int 1, .int 100]) (rest := []) ⟨hx, hb, hml, hown, ha⟩ (c_in l D cI cJ cZ cO _ a1 1 100) (va_cwS 3 ha (gaS kl_X11_187 kt_X11_in kz_X11 kd_X11_in) rfl rfl rfl (by decide +kernel) ⟨Nat.le_of_ble_eq_true rfl, Nat.le_of_ble_eq_true rfl⟩) ⟨pw_blind, fun U hU hW => ⟨rfl, pw_start hU hW pw_P0 hK (pw_D0 (A := A)) hN⟩⟩ rfl rfl hl.1 rfl (lv_room (Nat.le_of_ble_eq_true rfl)) dX11_link_4 ⟨Nat.le_of_ble_eq_true rfl, Nat.le_of_ble_eq_true rfl⟩) hS (fun q _ h => hFc q h) hFc (fun r_1 u t H1 locs ht hvm hw hB hz1 hk1 hS => ?_)
  have hP := va_keep0 hP hk1
  generalize H1 = H at hP hS ⊢
  refine W.widen (k := 0) (n := 0) (Nat.le_refl _) (Nat.le_refl _) ?_
  have hr_1 : r_1 = wi a1 1 100 := hw
  have hE := bd_at hr_1 hE
  refine lv_if_eq (tgt := 43) hx hb dX11_link_7 (by decide) (fun c_2 => ?_) (fun c_2 => ?_)
  · have t_c_2 := congrArg Int32.toInt c_2
    have hE := hE.trans (if_pos c_2)
    refine lv_iconst (v := 0) hx hb dX11_link_43 (by decide) ?_
    exact W.zret (v := 0) hx hb hr rfl (fun t ht hW => ⟨⟨0, (), rfl, ⟨by simp [lk, ← hr_1, c_2], by rw [← hRES, hE]⟩, ⟨mi, ma, ⟨⟨hI, fun k hk => (hFI k hk).trans (by rw [hmi0]), fun k hk => (hFA k hk).trans (by rw [hma0])⟩, by rw [← hRES, hE], by rw [← hRES, hE]⟩, by rw [ht]; exact hP, va_K.moved hW.alike hK, hD⟩⟩, hS.F ht⟩) hS.2.2 dX11_link_44
  · have t_c_2 := mt Int32.toInt_inj.mp c_2
    have hE := hE.trans (if_neg c_2)
    have w_r_1 := wi_ti (by rw [← hr_1]; exact c_2)
    refine lv_iload_n hx hb dX11_link_10 rfl (lv_at hl 2 rfl) ?_
    refine lv_iconst (v := 0) hx hb dX11_link_11 (by decide) ?_
    refine lv_bipush (v := 100) hx hb dX11_link_12 (by decide) ?_
    have hFc := va_free (wc := []) hD hS hA [] rfl
    refine va_calli (va_runS (As := [.int a2, .int 0, .int 100]) (rest := []) ⟨hx, hb, hml, hown, ha⟩ (c_in l D cI cJ cZ cO _ a2 0 100) (va_cwS 3 ha (gaS kl_X11_187 kt_X11_in kz_X11 kd_X11_in) rfl rfl rfl (by decide +kernel) ⟨Nat.le_of_ble_eq_true rfl, Nat.le_of_ble_eq_true rfl⟩) ⟨pw_blind, fun U hU hW => ⟨rfl, pw_start hU hW pw_P0 hK (pw_D0 (A := A)) hN⟩⟩ rfl rfl hl.1 rfl (lv_room (Nat.le_of_ble_eq_true rfl)) dX11_link_14 ⟨Nat.le_of_ble_eq_true rfl, Nat.le_of_ble_eq_true rfl⟩) hS (fun q _ h => hFc q h) hFc (fun r_3 u t H1 locs ht hvm hw hB hz1 hk1 hS => ?_)
    have hP := va_keep0 hP hk1
    generalize H1 = H at hP hS ⊢
    refine W.widen (k := 0) (n := 0) (Nat.le_refl _) (Nat.le_refl _) ?_
    have hr_3 : r_3 = wi a2 0 100 := hw
    have hE := bd_at hr_3 hE
    refine lv_if_eq (tgt := 43) hx hb dX11_link_17 (by decide) (fun c_4 => ?_) (fun c_4 => ?_)
    · have t_c_4 := congrArg Int32.toInt c_4
      have hE := hE.trans (if_pos c_4)
      refine lv_iconst (v := 0) hx hb dX11_link_43 (by decide) ?_
      exact W.zret (v := 0) hx hb hr rfl (fun t ht hW => ⟨⟨0, (), rfl, ⟨by simp [lk, ← hr_1, ← hr_3, c_2, c_4], by rw [← hRES, hE]⟩, ⟨mi, ma, ⟨⟨hI, fun k hk => (hFI k hk).trans (by rw [hmi0]), fun k hk => (hFA k hk).trans (by rw [hma0])⟩, by rw [← hRES, hE], by rw [← hRES, hE]⟩, by rw [ht]; exact hP, va_K.moved hW.alike hK, hD⟩⟩, hS.F ht⟩) hS.2.2 dX11_link_44
    · have t_c_4 := mt Int32.toInt_inj.mp c_4
      have hE := hE.trans (if_neg c_4)
      have w_r_3 := wi_ti (by rw [← hr_3]; exact c_4)
      refine lv_iload_n hx hb dX11_link_20 rfl (lv_at hl 3 rfl) ?_
      refine lv_iconst (v := 1) hx hb dX11_link_21 (by decide) ?_
      refine lv_sipush (v := 1000) hx hb dX11_link_22 (by decide) ?_
      have hFc := va_free (wc := []) hD hS hA [] rfl
      refine va_calli (va_runS (As := [.int a3, .int 1, .int 1000]) (rest := []) ⟨hx, hb, hml, hown, ha⟩ (c_in l D cI cJ cZ cO _ a3 1 1000) (va_cwS 3 ha (gaS kl_X11_187 kt_X11_in kz_X11 kd_X11_in) rfl rfl rfl (by decide +kernel) ⟨Nat.le_of_ble_eq_true rfl, Nat.le_of_ble_eq_true rfl⟩) ⟨pw_blind, fun U hU hW => ⟨rfl, pw_start hU hW pw_P0 hK (pw_D0 (A := A)) hN⟩⟩ rfl rfl hl.1 rfl (lv_room (Nat.le_of_ble_eq_true rfl)) dX11_link_25 ⟨Nat.le_of_ble_eq_true rfl, Nat.le_of_ble_eq_true rfl⟩) hS (fun q _ h => hFc q h) hFc (fun r_5 u t H1 locs ht hvm hw hB hz1 hk1 hS => ?_)
      have hP := va_keep0 hP hk1
      generalize H1 = H at hP hS ⊢
      refine W.widen (k := 0) (n := 0) (Nat.le_refl _) (Nat.le_refl _) ?_
      have hr_5 : r_5 = wi a3 1 1000 := hw
      have hE := bd_at hr_5 hE
      refine lv_if_eq (tgt := 43) hx hb dX11_link_28 (by decide) (fun c_6 => ?_) (fun c_6 => ?_)
      · have t_c_6 := congrArg Int32.toInt c_6
        have hE := hE.trans (if_pos c_6)
        refine lv_iconst (v := 0) hx hb dX11_link_43 (by decide) ?_
        exact W.zret (v := 0) hx hb hr rfl (fun t ht hW => ⟨⟨0, (), rfl, ⟨by simp [lk, ← hr_1, ← hr_3, ← hr_5, c_2, c_4, c_6], by rw [← hRES, hE]⟩, ⟨mi, ma, ⟨⟨hI, fun k hk => (hFI k hk).trans (by rw [hmi0]), fun k hk => (hFA k hk).trans (by rw [hma0])⟩, by rw [← hRES, hE], by rw [← hRES, hE]⟩, by rw [ht]; exact hP, va_K.moved hW.alike hK, hD⟩⟩, hS.F ht⟩) hS.2.2 dX11_link_44
      · have t_c_6 := mt Int32.toInt_inj.mp c_6
        have hE := hE.trans (if_neg c_6)
        have w_r_5 := wi_ti (by rw [← hr_5]; exact c_6)
        refine lv_iload hx hb dX11_link_31 (lv_at hl 4 rfl) ?_
        refine lv_iconst (v := 1) hx hb dX11_link_33 (by decide) ?_
        refine lv_sipush (v := 1000) hx hb dX11_link_34 (by decide) ?_
        have hFc := va_free (wc := []) hD hS hA [] rfl
        refine va_calli (va_runS (As := [.int a4, .int 1, .int 1000]) (rest := []) ⟨hx, hb, hml, hown, ha⟩ (c_in l D cI cJ cZ cO _ a4 1 1000) (va_cwS 3 ha (gaS kl_X11_187 kt_X11_in kz_X11 kd_X11_in) rfl rfl rfl (by decide +kernel) ⟨Nat.le_of_ble_eq_true rfl, Nat.le_of_ble_eq_true rfl⟩) ⟨pw_blind, fun U hU hW => ⟨rfl, pw_start hU hW pw_P0 hK (pw_D0 (A := A)) hN⟩⟩ rfl rfl hl.1 rfl (lv_room (Nat.le_of_ble_eq_true rfl)) dX11_link_37 ⟨Nat.le_of_ble_eq_true rfl, Nat.le_of_ble_eq_true rfl⟩) hS (fun q _ h => hFc q h) hFc (fun r_7 u t H1 locs ht hvm hw hB hz1 hk1 hS => ?_)
        have hP := va_keep0 hP hk1
        generalize H1 = H at hP hS ⊢
        refine W.widen (k := 0) (n := 0) (Nat.le_refl _) (Nat.le_refl _) ?_
        have hr_7 : r_7 = wi a4 1 1000 := hw
        have hE := bd_at hr_7 hE
        refine lv_if_ne (tgt := 45) hx hb dX11_link_40 (by decide) (fun c_8 => ?_) (fun c_8 => ?_)
        · have t_c_8 := mt Int32.toInt_inj.mp c_8
          have hE := hE.trans (if_neg c_8)
          have w_r_7 := wi_ti (by rw [← hr_7]; exact c_8)
          refine lv_aload_n hx hb dX11_link_45 rfl (lv_at hl 0 rfl) ?_
          refine lv_iload_n hx hb dX11_link_46 rfl (lv_at hl 1 rfl) ?_
          refine va_put (D := D) (ci := 11) (v := .int a1) (ty := .int) (C := RX11) (T := TX11) (N := 74) hx hb ha inlX11 tyX11 tyX11_ok nmX11 hown hK hP hD hS 0 mw_at0 rfl 0 (by decide) (ha _ kf_X11_7) (fun _ h9 => h9) rfl (by decide +kernel) rfl rfl (Nat.le_of_ble_eq_true rfl) dX11_link_47 (fun H locs hP hD hS => ?_)
          have hP : va_P D vwCl (mw cI cZ h0 mq (upd mi 0 a1) ma) H := mwP_0 hP
          have hD : va_D A (mw cI cZ h0 mq (upd mi 0 a1) ma) := mwD_0 hD
          generalize hmi_9 : upd mi 0 a1 = mi_9 at hP hD
          have hI : MI ph cl mi_9 ma := by rw [← hmi_9]; exact MIi_service hI
          have hFI : ∀ k, k ∉ ([0, 1, 2, 3] : List Nat) → mi_9 k = mi0 k := fun k hk => by rw [← hmi_9]; exact (if_neg (fun e => hk (by rw [e]; decide))).trans (hFI k hk)
          have hE := bs_at hmi_9 hE
          refine lv_aload_n hx hb dX11_link_50 rfl (lv_at hl 0 rfl) ?_
          refine lv_iload_n hx hb dX11_link_51 rfl (lv_at hl 2 rfl) ?_
          refine va_put (D := D) (ci := 11) (v := .int a2) (ty := .int) (C := RX11) (T := TX11) (N := 74) hx hb ha inlX11 tyX11 tyX11_ok nmX11 hown hK hP hD hS 0 mw_at0 rfl 1 (by decide) (ha _ kf_X11_13) (fun _ h9 => h9) rfl (by decide +kernel) rfl rfl (Nat.le_of_ble_eq_true rfl) dX11_link_52 (fun H locs hP hD hS => ?_)
          have hP : va_P D vwCl (mw cI cZ h0 mq (upd mi_9 1 a2) ma) H := mwP_1 hP
          have hD : va_D A (mw cI cZ h0 mq (upd mi_9 1 a2) ma) := mwD_1 hD
          generalize hmi_10 : upd mi_9 1 a2 = mi_10 at hP hD
          have hI : MI ph cl mi_10 ma := by rw [← hmi_10]; exact MIi_room hI (by omega) (by omega)
          have hFI : ∀ k, k ∉ ([0, 1, 2, 3] : List Nat) → mi_10 k = mi0 k := fun k hk => by rw [← hmi_10]; exact (if_neg (fun e => hk (by rw [e]; decide))).trans (hFI k hk)
          have hE := bs_at hmi_10 hE
          refine lv_aload_n hx hb dX11_link_55 rfl (lv_at hl 0 rfl) ?_
          refine lv_iload_n hx hb dX11_link_56 rfl (lv_at hl 3 rfl) ?_
          refine va_put (D := D) (ci := 11) (v := .int a3) (ty := .int) (C := RX11) (T := TX11) (N := 74) hx hb ha inlX11 tyX11 tyX11_ok nmX11 hown hK hP hD hS 0 mw_at0 rfl 2 (by decide) (ha _ kf_X11_16) (fun _ h9 => h9) rfl (by decide +kernel) rfl rfl (Nat.le_of_ble_eq_true rfl) dX11_link_57 (fun H locs hP hD hS => ?_)
          have hP : va_P D vwCl (mw cI cZ h0 mq (upd mi_10 2 a3) ma) H := mwP_2 hP
          have hD : va_D A (mw cI cZ h0 mq (upd mi_10 2 a3) ma) := mwD_2 hD
          generalize hmi_11 : upd mi_10 2 a3 = mi_11 at hP hD
          have hI : MI ph cl mi_11 ma := by rw [← hmi_11]; exact MIi_forward hI (by omega) (by omega)
          have hFI : ∀ k, k ∉ ([0, 1, 2, 3] : List Nat) → mi_11 k = mi0 k := fun k hk => by rw [← hmi_11]; exact (if_neg (fun e => hk (by rw [e]; decide))).trans (hFI k hk)
          have hE := bs_at hmi_11 hE
          refine lv_aload_n hx hb dX11_link_60 rfl (lv_at hl 0 rfl) ?_
          refine lv_iload hx hb dX11_link_61 (lv_at hl 4 rfl) ?_
          refine va_put (D := D) (ci := 11) (v := .int a4) (ty := .int) (C := RX11) (T := TX11) (N := 74) hx hb ha inlX11 tyX11 tyX11_ok nmX11 hown hK hP hD hS 0 mw_at0 rfl 3 (by decide) (ha _ kf_X11_19) (fun _ h9 => h9) rfl (by decide +kernel) rfl rfl (Nat.le_of_ble_eq_true rfl) dX11_link_63 (fun H locs hP hD hS => ?_)
          have hP : va_P D vwCl (mw cI cZ h0 mq (upd mi_11 3 a4) ma) H := mwP_3 hP
          have hD : va_D A (mw cI cZ h0 mq (upd mi_11 3 a4) ma) := mwD_3 hD
          generalize hmi_12 : upd mi_11 3 a4 = mi_12 at hP hD
          have hI : MI ph cl mi_12 ma := by rw [← hmi_12]; exact MIi_back hI (by omega) (by omega)
          have hFI : ∀ k, k ∉ ([0, 1, 2, 3] : List Nat) → mi_12 k = mi0 k := fun k hk => by rw [← hmi_12]; exact (if_neg (fun e => hk (by rw [e]; decide))).trans (hFI k hk)
          have hE := bs_at hmi_12 hE
          refine lv_iconst (v := 1) hx hb dX11_link_66 (by decide) ?_
          exact W.zret (v := 1) hx hb hr rfl (fun t ht hW => ⟨⟨1, (), rfl, ⟨by simp [lk, ← hr_1, ← hr_3, ← hr_5, ← hr_7, c_2, c_4, c_6, c_8], by rw [← hRES, hE]⟩, ⟨mi_12, ma, ⟨⟨hI, fun k hk => (hFI k hk).trans (by rw [hmi0]), fun k hk => (hFA k hk).trans (by rw [hma0])⟩, by rw [← hRES, hE], by rw [← hRES, hE]⟩, by rw [ht]; exact hP, va_K.moved hW.alike hK, hD⟩⟩, hS.F ht⟩) hS.2.2 dX11_link_67
        · have t_c_8 := congrArg Int32.toInt c_8
          have hE := hE.trans (if_pos c_8)
          refine lv_iconst (v := 0) hx hb dX11_link_43 (by decide) ?_
          exact W.zret (v := 0) hx hb hr rfl (fun t ht hW => ⟨⟨0, (), rfl, ⟨by simp [lk, ← hr_1, ← hr_3, ← hr_5, ← hr_7, c_2, c_4, c_6, c_8], by rw [← hRES, hE]⟩, ⟨mi, ma, ⟨⟨hI, fun k hk => (hFI k hk).trans (by rw [hmi0]), fun k hk => (hFA k hk).trans (by rw [hma0])⟩, by rw [← hRES, hE], by rw [← hRES, hE]⟩, by rw [ht]; exact hP, va_K.moved hW.alike hK, hD⟩⟩, hS.F ht⟩) hS.2.2 dX11_link_44

set_option maxRecDepth 100000 in
def x_send (f : Int32) (g : Int32) (mi : Nat → Int32) (ma : Nat → Nat → Int32) : XT := bc (x_isFlow f mi ma) (fun m1 a2 v3 => (if v3 = (0 : Int32) then (m1, a2, ((-1) : Int32)) else bd (wi g (1 : Int32) (100000 : Int32)) (fun v4 => (if v4 = (0 : Int32) then (m1, a2, ((-1) : Int32)) else bd (a2 43 f.toNatClampNeg) (fun v5 => bd (v5 + g) (fun v6 => (if v6 ≤ (1000000 : Int32) then bd (a2 43 f.toNatClampNeg) (fun v7 => bd (v7 + g) (fun v8 => bd (va_up a2 43 (upd (a2 43) f.toNatClampNeg v8)) (fun a9 => bd (a9 43 f.toNatClampNeg) (fun v10 => (m1, a9, v10))))) else (m1, a2, ((-1) : Int32)))))))))
set_option maxHeartbeats 4000000 in
set_option maxRecDepth 100000 in
theorem m_send (l : Launch) (D : va_G) (cI cJ cZ cO : ClassId) (sz : Nat) (h0 : Nat) (mq : Nat → Nat) (mi : Nat → Int32) (ma : Nat → Nat → Int32) (ph : Nat) (cl : Int) (f g : Int32) (hI : MI ph cl mi ma) : Met l yX11_send (wa yX11_send cX11_send 3 (some .int)) ({ frames := 1, cells := 0, slots := 0, locals := 22 }) (va_Pc [.ref h0, .int f, .int g] (pw_s D cI cJ cZ cO sz (mw cI cZ h0 mq mi ma))) (va_Qi (fun (r : Int32) (_ : Unit) => ((True) ∧ r = (x_send f g mi ma).2.2)) (fun (_ : Unit) (t : State) => ∃ (mi2 : Nat → Int32) (ma2 : Nat → Nat → Int32), ((MI ph cl mi2 ma2 ∧ (∀ k, k ∉ ([] : List Nat) → mi2 k = mi k) ∧ (∀ k, k ∉ ([43] : List Nat) → ma2 k = ma k)) ∧ mi2 = (x_send f g mi ma).1 ∧ ma2 = (x_send f g mi ma).2.1) ∧ pw_t D cI cJ cZ cO (va_A (mw cI cZ h0 mq mi ma) sz) (mw cI cZ h0 mq mi2 ma2) t) (va_A (mw cI cZ h0 mq mi ma) sz)) 0 0 (va_A (mw cI cZ h0 mq mi ma) sz) := by
  refine Met.ofW (cc := cX11_send) (maxL := 3) (ret := (some .int)) (by decide) rfl ?_
  intro p e s m args below meth c s₁ B hml hv
  obtain ⟨rfl, hsz, hP, hK, hD0, hN⟩ := hv
  have hx := B.exec
  have hb := B.bytes
  have hr := B.returns
  have hts := atoms_spec (ws := (wa yX11_send cX11_send 3 (some .int))) B.pre
  have ha : ∀ w ∈ wsL_law, w.before _ s = true := fun w h => hts w (List.mem_cons_of_mem _ h)
  have hown : s.vm.findClass RX11 = some m.cls := findClass_of_methodNamed B.named
  have hlocks := B.notSynchronized
  subst hsz
  have hD := hD0.self (sz := s.heap.size)
  generalize hAe : va_A (mw cI cZ h0 mq mi ma) s.heap.size = A at hD ⊢
  have hA : ∀ q : Nat, s.heap.size ≤ q → A q := fun q h => by rw [← hAe]; exact Or.inr h
  have hS : va_S A s.heap s.heap [] := va_S.rf
  have hP : va_P D vwCl (mw cI cZ h0 mq mi ma) s.heap := hP
  have hl := lv_entry ([.ref h0, .int f, .int g]) (n := 3) (Nat.le_of_ble_eq_true rfl)
  rw [lg_entry_eq]
  generalize (lg_sl ([.ref h0, .int f, .int g]) ++ List.replicate (3 - (lg_sl ([.ref h0, .int f, .int g])).length) Slot.unset).toArray = ls at hl ⊢
  have hl : lv_has ls 3 [(0, .ref h0), (1, .int f), (2, .int g)] := hl
  have kc_m1 := tk_m1
  have kc_0 := tk_0
  have kc_1 := tk_1
  have kc_100000 := tk_100000
  have kc_1000000 := tk_1000000
  obtain ⟨mi0, hmi0⟩ : ∃ y, y = mi := ⟨_, rfl⟩
  obtain ⟨ma0, hma0⟩ : ∃ y, y = ma := ⟨_, rfl⟩
  have hFI : ∀ k, k ∉ ([] : List Nat) → mi k = mi0 k := fun k _ => by rw [hmi0]
  have hFA : ∀ k, k ∉ ([43] : List Nat) → ma k = ma0 k := fun k _ => by rw [hma0]
  obtain ⟨QP, hQP⟩ : ∃ y : State → Prop, y = (MQ below (va_Qi (fun (r : Int32) (_ : Unit) => ((True) ∧ r = (x_send f g mi ma).2.2)) (fun (_ : Unit) (t : State) => ∃ (mi2 : Nat → Int32) (ma2 : Nat → Nat → Int32), ((MI ph cl mi2 ma2 ∧ (∀ k, k ∉ ([] : List Nat) → mi2 k = mi k) ∧ (∀ k, k ∉ ([43] : List Nat) → ma2 k = ma k)) ∧ mi2 = (x_send f g mi ma).1 ∧ ma2 = (x_send f g mi ma).2.1) ∧ pw_t D cI cJ cZ cO A (mw cI cZ h0 mq mi2 ma2) t) A) #[(.ref h0 : Value), (.int f : Value), (.int g : Value)] s 0 0 A) := ⟨_, rfl⟩
  obtain ⟨RES, hRES⟩ : ∃ y, y = (x_send f g mi ma) := ⟨_, rfl⟩
  -- from the entry
  have hE := hRES
  unfold x_send at hE
  refine lv_aload_n hx hb dX11_send_0 rfl (lv_at hl 0 rfl) ?_
  refine lv_iload_n hx hb dX11_send_1 rfl (lv_at hl 1 rfl) ?_
  have hFc := va_freeW hD hS hA
  refine va_calli (va_runV (As := [.int f]) (rest := []) ⟨hx, hb, hml, hown, ha⟩ (m_isFlow l D cI cJ cZ cO _ h0 mq mi ma ph cl f hI.1) (cwV 1 ha (gaV kl_X11_195 km_X11_isFlow ks_X11_isFlow kz_X11 kd_X11_isFlow) rfl rfl rfl (by decide +kernel) ⟨Nat.le_of_ble_eq_true rfl, Nat.le_of_ble_eq_true rfl⟩) ⟨pw_blind, va_recv hK hP (ci := 11) (q0 := 0) rfl rfl, fun U hU hW => ⟨rfl, pw_start hU hW hP hK hD hN⟩⟩ rfl rfl hl.1 rfl (lv_room (Nat.le_of_ble_eq_true rfl)) dX11_send_2 ⟨Nat.le_of_ble_eq_true rfl, Nat.le_of_ble_eq_true rfl⟩) hS (fun q _ h => hFc q h) hFc (fun r_1 u t H1 locs ht hvm hw hB hz1 hk1 hS => ?_)
  obtain ⟨mi_2, ma_3, ⟨hf_4, hX1, hX2⟩, hP, hK1, hD1⟩ := hB
  have hE := bc_at hX1 hX2 hw.2 hE
  rw [ht] at hP
  have hD := hD1.weaken (fun k q _ h => hFc q.1 h)
  clear hD1
  generalize H1 = H at hP hS ⊢
  refine W.widen (k := 0) (n := 0) (Nat.le_refl _) (Nat.le_refl _) ?_
  have hI : MI ph cl mi_2 ma_3 := ⟨hf_4.1, due_keep hI.2 (hf_4.2.1 4 (by decide)) (hf_4.2.1 10 (by decide)) (hf_4.2.1 11 (by decide)) (hf_4.2.1 12 (by decide)) (hf_4.2.1 17 (by decide)) (hf_4.2.1 18 (by decide)) (hf_4.2.1 19 (by decide)) (hf_4.2.2 13 (by decide)) (hf_4.2.2 20 (by decide)) (hf_4.2.2 40 (by decide)) (hf_4.2.2 41 (by decide))⟩
  have hFI : ∀ k, k ∉ ([] : List Nat) → mi_2 k = mi0 k := fun k hk => (hf_4.2.1 k (fun h => hk (by revert h; exact sub_of (by decide) k))).trans (hFI k hk)
  have hFA : ∀ k, k ∉ ([43] : List Nat) → ma_3 k = ma0 k := fun k hk => (hf_4.2.2 k (fun h => hk (by revert h; exact sub_of (by decide) k))).trans (hFA k hk)
  have hr_1 := hw.1
  refine lv_if_eq (tgt := 31) hx hb dX11_send_5 (by decide) (fun c_5 => ?_) (fun c_5 => ?_)
  · have t_c_5 := congrArg Int32.toInt c_5
    have hE := hE.trans (if_pos c_5)
    refine lv_iconst (v := (-1)) hx hb dX11_send_31 (by decide) ?_
    exact W.iret (v := (-1)) hx hb hr (fun t ht hW => ⟨⟨(-1), (), rfl, ⟨trivial, by rw [← hRES, hE]⟩, ⟨mi_2, ma_3, ⟨⟨hI, fun k hk => (hFI k hk).trans (by rw [hmi0]), fun k hk => (hFA k hk).trans (by rw [hma0])⟩, by rw [← hRES, hE], by rw [← hRES, hE]⟩, by rw [ht]; exact hP, va_K.moved hW.alike hK, hD⟩⟩, hS.F ht⟩) hS.2.2 dX11_send_32
  · have t_c_5 := mt Int32.toInt_inj.mp c_5
    have hE := hE.trans (if_neg c_5)
    have hif := hr_1.2 c_5
    have hff := hif.2.1
    have hf0 := hif.1
    have hf4 := hif.2.2
    have hfw : f.toInt < (mi_2 32).toInt := by rw [hf_4.2.1 32 (by decide)]; exact hff
    refine lv_iload_n hx hb dX11_send_8 rfl (lv_at hl 2 rfl) ?_
    refine lv_iconst (v := 1) hx hb dX11_send_9 (by decide) ?_
    refine lv_ldc (v := 100000) hx hb hown (ha _ kk_X11_199) dX11_send_10 ?_
    have hFc := va_free (wc := []) hD hS hA [] rfl
    refine va_calli (va_runS (As := [.int g, .int 1, .int 100000]) (rest := []) ⟨hx, hb, hml, hown, ha⟩ (c_in l D cI cJ cZ cO _ g 1 100000) (va_cwS 3 ha (gaS kl_X11_187 kt_X11_in kz_X11 kd_X11_in) rfl rfl rfl (by decide +kernel) ⟨Nat.le_of_ble_eq_true rfl, Nat.le_of_ble_eq_true rfl⟩) ⟨pw_blind, fun U hU hW => ⟨rfl, pw_start hU hW pw_P0 hK (pw_D0 (A := A)) hN⟩⟩ rfl rfl hl.1 rfl (lv_room (Nat.le_of_ble_eq_true rfl)) dX11_send_12 ⟨Nat.le_of_ble_eq_true rfl, Nat.le_of_ble_eq_true rfl⟩) hS (fun q _ h => hFc q h) hFc (fun r_6 u t H1 locs ht hvm hw hB hz1 hk1 hS => ?_)
    have hP := va_keep0 hP hk1
    generalize H1 = H at hP hS ⊢
    refine W.widen (k := 0) (n := 0) (Nat.le_refl _) (Nat.le_refl _) ?_
    have hr_6 : r_6 = wi g 1 100000 := hw
    have hE := bd_at hr_6 hE
    refine lv_if_eq (tgt := 31) hx hb dX11_send_15 (by decide) (fun c_7 => ?_) (fun c_7 => ?_)
    · have t_c_7 := congrArg Int32.toInt c_7
      have hE := hE.trans (if_pos c_7)
      refine lv_iconst (v := (-1)) hx hb dX11_send_31 (by decide) ?_
      exact W.iret (v := (-1)) hx hb hr (fun t ht hW => ⟨⟨(-1), (), rfl, ⟨trivial, by rw [← hRES, hE]⟩, ⟨mi_2, ma_3, ⟨⟨hI, fun k hk => (hFI k hk).trans (by rw [hmi0]), fun k hk => (hFA k hk).trans (by rw [hma0])⟩, by rw [← hRES, hE], by rw [← hRES, hE]⟩, by rw [ht]; exact hP, va_K.moved hW.alike hK, hD⟩⟩, hS.F ht⟩) hS.2.2 dX11_send_32
    · have t_c_7 := mt Int32.toInt_inj.mp c_7
      have hE := hE.trans (if_neg c_7)
      have w_r_6 := wi_ti (by rw [← hr_6]; exact c_7)
      refine lv_aload_n hx hb dX11_send_18 rfl (lv_at hl 0 rfl) ?_
      refine va_get (D := D) (ci := 11) (v := .ref (mq 43)) (C := RX11) (T := TX11) (N := 74) hx hb ha inlX11 hown hK hP 0 mw_at0 rfl 43 (by decide) (ha _ kf_X11_97) (fun _ h9 => h9) rfl dX11_send_19 ?_
      refine lv_iload_n hx hb dX11_send_22 rfl (lv_at hl 1 rfl) ?_
      have hin_8 : vp_in f 4 := vpi_of (by omega) (by omega)
      refine va_iald hx hb hK hP 25 0 mw_at43 rfl hin_8 dX11_send_23 ?_
      refine lv_topi (fun x_9 ex_9 => ?_)
      have hE := bd_at ex_9 hE
      have u_x_9 := congrArg Int32.toInt ex_9
      have r_x_9 := rg_ld (MI_all hI) hin_8 ex_9
      refine lv_iload_n hx hb dX11_send_24 rfl (lv_at hl 2 rfl) ?_
      refine lv_iadd hx hb dX11_send_25 ?_
      refine lv_topi (fun x_10 ex_10 => ?_)
      have hE := bd_at ex_10 hE
      try have t_x_10 := ti_add ex_10 (by omega) (by omega)
      refine lv_ldc (v := 1000000) hx hb hown (ha _ kk_X11_200) dX11_send_26 ?_
      refine lv_icmp_le (tgt := 33) hx hb dX11_send_28 (by decide) (fun c_11 => ?_) (fun c_11 => ?_)
      · have t_c_11 := Int32.le_iff_toInt_le.mp c_11
        have hE := hE.trans (if_pos c_11)
        refine lv_aload_n hx hb dX11_send_33 rfl (lv_at hl 0 rfl) ?_
        refine va_get (D := D) (ci := 11) (v := .ref (mq 43)) (C := RX11) (T := TX11) (N := 74) hx hb ha inlX11 hown hK hP 0 mw_at0 rfl 43 (by decide) (ha _ kf_X11_97) (fun _ h9 => h9) rfl dX11_send_34 ?_
        refine lv_iload_n hx hb dX11_send_37 rfl (lv_at hl 1 rfl) ?_
        refine lv_dup2_11 hx hb dX11_send_38 rfl rfl ?_
        have hin_12 : vp_in f 4 := vpi_of (by omega) (by omega)
        refine va_iald hx hb hK hP 25 0 mw_at43 rfl hin_12 dX11_send_39 ?_
        refine lv_topi (fun x_13 ex_13 => ?_)
        have hE := bd_at ex_13 hE
        have u_x_13 := congrArg Int32.toInt ex_13
        have r_x_13 := rg_ld (MI_all hI) hin_12 ex_13
        refine lv_iload_n hx hb dX11_send_40 rfl (lv_at hl 2 rfl) ?_
        refine lv_iadd hx hb dX11_send_41 ?_
        refine lv_topi (fun x_14 ex_14 => ?_)
        have hE := bd_at ex_14 hE
        try have t_x_14 := ti_add ex_14 (by omega) (by omega)
        have hin_15 : vp_in f 4 := vpi_of (by omega) (by omega)
        refine va_iast hx hb hK hP hD hS 25 0 mw_at43 rfl hin_15 dX11_send_42 (fun H locs hP hD hS => ?_)
        have hP : va_P D vwCl (mw cI cZ h0 mq mi_2 (va_up ma_3 43 (upd (ma_3 43) f.toNatClampNeg x_14))) H := mwP_43 hP
        have hD : va_D A (mw cI cZ h0 mq mi_2 (va_up ma_3 43 (upd (ma_3 43) f.toNatClampNeg x_14))) := mwD_43 hD
        generalize hma_16 : va_up ma_3 43 (upd (ma_3 43) f.toNatClampNeg x_14) = ma_16 at hP hD
        have hI : MI ph cl mi_2 ma_16 := by rw [← hma_16]; exact MIa_all hI (by omega) (by omega)
        have hFA : ∀ k, k ∉ ([43] : List Nat) → ma_16 k = ma0 k := fun k hk => by rw [← hma_16]; exact (va_up_ne _ _ (fun e => hk (by rw [e]; decide))).trans (hFA k hk)
        have hE := bs_at hma_16 hE
        refine lv_aload_n hx hb dX11_send_43 rfl (lv_at hl 0 rfl) ?_
        refine va_get (D := D) (ci := 11) (v := .ref (mq 43)) (C := RX11) (T := TX11) (N := 74) hx hb ha inlX11 hown hK hP 0 mw_at0 rfl 43 (by decide) (ha _ kf_X11_97) (fun _ h9 => h9) rfl dX11_send_44 ?_
        refine lv_iload_n hx hb dX11_send_47 rfl (lv_at hl 1 rfl) ?_
        have hin_17 : vp_in f 4 := vpi_of (by omega) (by omega)
        refine va_iald hx hb hK hP 25 0 mw_at43 rfl hin_17 dX11_send_48 ?_
        refine lv_topi (fun x_18 ex_18 => ?_)
        have hE := bd_at ex_18 hE
        have u_x_18 := congrArg Int32.toInt ex_18
        have r_x_18 := rg_ld (MI_all hI) hin_17 ex_18
        exact W.iret (v := x_18) hx hb hr (fun t ht hW => ⟨⟨x_18, (), rfl, ⟨trivial, by rw [← hRES, hE]⟩, ⟨mi_2, ma_16, ⟨⟨hI, fun k hk => (hFI k hk).trans (by rw [hmi0]), fun k hk => (hFA k hk).trans (by rw [hma0])⟩, by rw [← hRES, hE], by rw [← hRES, hE]⟩, by rw [ht]; exact hP, va_K.moved hW.alike hK, hD⟩⟩, hS.F ht⟩) hS.2.2 dX11_send_49
      · have t_c_11 := Int32.lt_iff_toInt_lt.mp (Int32.not_le.mp c_11)
        have hE := hE.trans (if_neg c_11)
        refine lv_iconst (v := (-1)) hx hb dX11_send_31 (by decide) ?_
        exact W.iret (v := (-1)) hx hb hr (fun t ht hW => ⟨⟨(-1), (), rfl, ⟨trivial, by rw [← hRES, hE]⟩, ⟨mi_2, ma_3, ⟨⟨hI, fun k hk => (hFI k hk).trans (by rw [hmi0]), fun k hk => (hFA k hk).trans (by rw [hma0])⟩, by rw [← hRES, hE], by rw [← hRES, hE]⟩, by rw [ht]; exact hP, va_K.moved hW.alike hK, hD⟩⟩, hS.F ht⟩) hS.2.2 dX11_send_32

set_option maxRecDepth 100000 in
def x_window (f : Int32) (g : Int32) (mi : Nat → Int32) (ma : Nat → Nat → Int32) : XT := bc (x_isFlow f mi ma) (fun m1 a2 v3 => (if v3 = (0 : Int32) then (m1, a2, ((-1) : Int32)) else bd (wi g (0 : Int32) (200 : Int32)) (fun v4 => (if v4 = (0 : Int32) then (m1, a2, ((-1) : Int32)) else bd (a2 35 f.toNatClampNeg) (fun v5 => bd (va_up a2 35 (upd (a2 35) f.toNatClampNeg g)) (fun a6 => bd (a6 41 f.toNatClampNeg) (fun v7 => (if v7 = (0 : Int32) then (if v5 = g then bd (va_up a6 41 (upd (a6 41) f.toNatClampNeg (vp_nar .boolean (0 : Int32)))) (fun a9 => (m1, a9, v5)) else bd (va_up a6 41 (upd (a6 41) f.toNatClampNeg (vp_nar .boolean (1 : Int32)))) (fun a10 => (m1, a10, v5))) else bd (va_up a6 41 (upd (a6 41) f.toNatClampNeg (vp_nar .boolean (1 : Int32)))) (fun a8 => (m1, a8, v5))))))))))
set_option maxHeartbeats 4000000 in
set_option maxRecDepth 100000 in
theorem m_window (l : Launch) (D : va_G) (cI cJ cZ cO : ClassId) (sz : Nat) (h0 : Nat) (mq : Nat → Nat) (mi : Nat → Int32) (ma : Nat → Nat → Int32) (ph : Nat) (cl : Int) (f g : Int32) (hI : MI ph (cl + 1) mi ma) : Met l yX11_window (wa yX11_window cX11_window 4 (some .int)) ({ frames := 1, cells := 0, slots := 0, locals := 22 }) (va_Pc [.ref h0, .int f, .int g] (pw_s D cI cJ cZ cO sz (mw cI cZ h0 mq mi ma))) (va_Qi (fun (r : Int32) (_ : Unit) => ((True) ∧ r = (x_window f g mi ma).2.2)) (fun (_ : Unit) (t : State) => ∃ (mi2 : Nat → Int32) (ma2 : Nat → Nat → Int32), ((MI ph cl mi2 ma2 ∧ (∀ k, k ∉ ([] : List Nat) → mi2 k = mi k) ∧ (∀ k, k ∉ ([35, 41] : List Nat) → ma2 k = ma k)) ∧ mi2 = (x_window f g mi ma).1 ∧ ma2 = (x_window f g mi ma).2.1) ∧ pw_t D cI cJ cZ cO (va_A (mw cI cZ h0 mq mi ma) sz) (mw cI cZ h0 mq mi2 ma2) t) (va_A (mw cI cZ h0 mq mi ma) sz)) 0 0 (va_A (mw cI cZ h0 mq mi ma) sz) := by
  refine Met.ofW (cc := cX11_window) (maxL := 4) (ret := (some .int)) (by decide) rfl ?_
  intro p e s m args below meth c s₁ B hml hv
  obtain ⟨rfl, hsz, hP, hK, hD0, hN⟩ := hv
  have hx := B.exec
  have hb := B.bytes
  have hr := B.returns
  have hts := atoms_spec (ws := (wa yX11_window cX11_window 4 (some .int))) B.pre
  have ha : ∀ w ∈ wsL_law, w.before _ s = true := fun w h => hts w (List.mem_cons_of_mem _ h)
  have hown : s.vm.findClass RX11 = some m.cls := findClass_of_methodNamed B.named
  have hlocks := B.notSynchronized
  subst hsz
  have hD := hD0.self (sz := s.heap.size)
  generalize hAe : va_A (mw cI cZ h0 mq mi ma) s.heap.size = A at hD ⊢
  have hA : ∀ q : Nat, s.heap.size ≤ q → A q := fun q h => by rw [← hAe]; exact Or.inr h
  have hS : va_S A s.heap s.heap [] := va_S.rf
  have hP : va_P D vwCl (mw cI cZ h0 mq mi ma) s.heap := hP
  have hl := lv_entry ([.ref h0, .int f, .int g]) (n := 4) (Nat.le_of_ble_eq_true rfl)
  rw [lg_entry_eq]
  generalize (lg_sl ([.ref h0, .int f, .int g]) ++ List.replicate (4 - (lg_sl ([.ref h0, .int f, .int g])).length) Slot.unset).toArray = ls at hl ⊢
  have hl : lv_has ls 4 [(0, .ref h0), (1, .int f), (2, .int g)] := hl
  have kc_m1 := tk_m1
  have kc_0 := tk_0
  have kc_1 := tk_1
  have kc_200 := tk_200
  obtain ⟨mi0, hmi0⟩ : ∃ y, y = mi := ⟨_, rfl⟩
  obtain ⟨ma0, hma0⟩ : ∃ y, y = ma := ⟨_, rfl⟩
  have hFI : ∀ k, k ∉ ([] : List Nat) → mi k = mi0 k := fun k _ => by rw [hmi0]
  have hFA : ∀ k, k ∉ ([35, 41] : List Nat) → ma k = ma0 k := fun k _ => by rw [hma0]
  obtain ⟨QP, hQP⟩ : ∃ y : State → Prop, y = (MQ below (va_Qi (fun (r : Int32) (_ : Unit) => ((True) ∧ r = (x_window f g mi ma).2.2)) (fun (_ : Unit) (t : State) => ∃ (mi2 : Nat → Int32) (ma2 : Nat → Nat → Int32), ((MI ph cl mi2 ma2 ∧ (∀ k, k ∉ ([] : List Nat) → mi2 k = mi k) ∧ (∀ k, k ∉ ([35, 41] : List Nat) → ma2 k = ma k)) ∧ mi2 = (x_window f g mi ma).1 ∧ ma2 = (x_window f g mi ma).2.1) ∧ pw_t D cI cJ cZ cO A (mw cI cZ h0 mq mi2 ma2) t) A) #[(.ref h0 : Value), (.int f : Value), (.int g : Value)] s 0 0 A) := ⟨_, rfl⟩
  obtain ⟨RES, hRES⟩ : ∃ y, y = (x_window f g mi ma) := ⟨_, rfl⟩
  -- from the entry
  have hE := hRES
  unfold x_window at hE
  refine lv_aload_n hx hb dX11_window_0 rfl (lv_at hl 0 rfl) ?_
  refine lv_iload_n hx hb dX11_window_1 rfl (lv_at hl 1 rfl) ?_
  have hFc := va_freeW hD hS hA
  refine va_calli (va_runV (As := [.int f]) (rest := []) ⟨hx, hb, hml, hown, ha⟩ (m_isFlow l D cI cJ cZ cO _ h0 mq mi ma ph (cl + 1) f hI.1) (cwV 1 ha (gaV kl_X11_195 km_X11_isFlow ks_X11_isFlow kz_X11 kd_X11_isFlow) rfl rfl rfl (by decide +kernel) ⟨Nat.le_of_ble_eq_true rfl, Nat.le_of_ble_eq_true rfl⟩) ⟨pw_blind, va_recv hK hP (ci := 11) (q0 := 0) rfl rfl, fun U hU hW => ⟨rfl, pw_start hU hW hP hK hD hN⟩⟩ rfl rfl hl.1 rfl (lv_room (Nat.le_of_ble_eq_true rfl)) dX11_window_2 ⟨Nat.le_of_ble_eq_true rfl, Nat.le_of_ble_eq_true rfl⟩) hS (fun q _ h => hFc q h) hFc (fun r_1 u t H1 locs ht hvm hw hB hz1 hk1 hS => ?_)
  obtain ⟨mi_2, ma_3, ⟨hf_4, hX1, hX2⟩, hP, hK1, hD1⟩ := hB
  have hE := bc_at hX1 hX2 hw.2 hE
  rw [ht] at hP
  have hD := hD1.weaken (fun k q _ h => hFc q.1 h)
  clear hD1
  generalize H1 = H at hP hS ⊢
  refine W.widen (k := 0) (n := 0) (Nat.le_refl _) (Nat.le_refl _) ?_
  have hI : MI ph (cl + 1) mi_2 ma_3 := ⟨hf_4.1, due_keep hI.2 (hf_4.2.1 4 (by decide)) (hf_4.2.1 10 (by decide)) (hf_4.2.1 11 (by decide)) (hf_4.2.1 12 (by decide)) (hf_4.2.1 17 (by decide)) (hf_4.2.1 18 (by decide)) (hf_4.2.1 19 (by decide)) (hf_4.2.2 13 (by decide)) (hf_4.2.2 20 (by decide)) (hf_4.2.2 40 (by decide)) (hf_4.2.2 41 (by decide))⟩
  have hFI : ∀ k, k ∉ ([] : List Nat) → mi_2 k = mi0 k := fun k hk => (hf_4.2.1 k (fun h => hk (by revert h; exact sub_of (by decide) k))).trans (hFI k hk)
  have hFA : ∀ k, k ∉ ([35, 41] : List Nat) → ma_3 k = ma0 k := fun k hk => (hf_4.2.2 k (fun h => hk (by revert h; exact sub_of (by decide) k))).trans (hFA k hk)
  have hr_1 := hw.1
  refine lv_if_eq (tgt := 19) hx hb dX11_window_5 (by decide) (fun c_5 => ?_) (fun c_5 => ?_)
  · have t_c_5 := congrArg Int32.toInt c_5
    have hE := hE.trans (if_pos c_5)
    refine lv_iconst (v := (-1)) hx hb dX11_window_19 (by decide) ?_
    have hI := MI_cl hI
    exact W.iret (v := (-1)) hx hb hr (fun t ht hW => ⟨⟨(-1), (), rfl, ⟨trivial, by rw [← hRES, hE]⟩, ⟨mi_2, ma_3, ⟨⟨hI, fun k hk => (hFI k hk).trans (by rw [hmi0]), fun k hk => (hFA k hk).trans (by rw [hma0])⟩, by rw [← hRES, hE], by rw [← hRES, hE]⟩, by rw [ht]; exact hP, va_K.moved hW.alike hK, hD⟩⟩, hS.F ht⟩) hS.2.2 dX11_window_20
  · have t_c_5 := mt Int32.toInt_inj.mp c_5
    have hE := hE.trans (if_neg c_5)
    have hif := hr_1.2 c_5
    have hff := hif.2.1
    have hf0 := hif.1
    have hf4 := hif.2.2
    have hfw : f.toInt < (mi_2 32).toInt := by rw [hf_4.2.1 32 (by decide)]; exact hff
    refine lv_iload_n hx hb dX11_window_8 rfl (lv_at hl 2 rfl) ?_
    refine lv_iconst (v := 0) hx hb dX11_window_9 (by decide) ?_
    refine lv_sipush (v := 200) hx hb dX11_window_10 (by decide) ?_
    have hFc := va_free (wc := []) hD hS hA [] rfl
    refine va_calli (va_runS (As := [.int g, .int 0, .int 200]) (rest := []) ⟨hx, hb, hml, hown, ha⟩ (c_in l D cI cJ cZ cO _ g 0 200) (va_cwS 3 ha (gaS kl_X11_187 kt_X11_in kz_X11 kd_X11_in) rfl rfl rfl (by decide +kernel) ⟨Nat.le_of_ble_eq_true rfl, Nat.le_of_ble_eq_true rfl⟩) ⟨pw_blind, fun U hU hW => ⟨rfl, pw_start hU hW pw_P0 hK (pw_D0 (A := A)) hN⟩⟩ rfl rfl hl.1 rfl (lv_room (Nat.le_of_ble_eq_true rfl)) dX11_window_13 ⟨Nat.le_of_ble_eq_true rfl, Nat.le_of_ble_eq_true rfl⟩) hS (fun q _ h => hFc q h) hFc (fun r_6 u t H1 locs ht hvm hw hB hz1 hk1 hS => ?_)
    have hP := va_keep0 hP hk1
    generalize H1 = H at hP hS ⊢
    refine W.widen (k := 0) (n := 0) (Nat.le_refl _) (Nat.le_refl _) ?_
    have hr_6 : r_6 = wi g 0 200 := hw
    have hE := bd_at hr_6 hE
    refine lv_if_ne (tgt := 21) hx hb dX11_window_16 (by decide) (fun c_7 => ?_) (fun c_7 => ?_)
    · have t_c_7 := mt Int32.toInt_inj.mp c_7
      have hE := hE.trans (if_neg c_7)
      have w_r_6 := wi_ti (by rw [← hr_6]; exact c_7)
      refine lv_aload_n hx hb dX11_window_21 rfl (lv_at hl 0 rfl) ?_
      refine va_get (D := D) (ci := 11) (v := .ref (mq 35)) (C := RX11) (T := TX11) (N := 74) hx hb ha inlX11 hown hK hP 0 mw_at0 rfl 35 (by decide) (ha _ kf_X11_73) (fun _ h9 => h9) rfl dX11_window_22 ?_
      refine lv_iload_n hx hb dX11_window_25 rfl (lv_at hl 1 rfl) ?_
      have hin_8 : vp_in f 4 := vpi_of (by omega) (by omega)
      refine va_iald hx hb hK hP 17 0 mw_at35 rfl hin_8 dX11_window_26 ?_
      refine lv_topi (fun x_9 ex_9 => ?_)
      have hE := bd_at ex_9 hE
      have u_x_9 := congrArg Int32.toInt ex_9
      have r_x_9 := rg_ld (MI_window hI) hin_8 ex_9
      refine lv_istore_n (lv' := [(3, .int x_9), (0, .ref h0), (1, .int f), (2, .int g)]) hx hb dX11_window_27 rfl hl (by decide) rfl (fun ls hl => ?_)
      refine lv_aload_n hx hb dX11_window_28 rfl (lv_at hl 1 rfl) ?_
      refine va_get (D := D) (ci := 11) (v := .ref (mq 35)) (C := RX11) (T := TX11) (N := 74) hx hb ha inlX11 hown hK hP 0 mw_at0 rfl 35 (by decide) (ha _ kf_X11_73) (fun _ h9 => h9) rfl dX11_window_29 ?_
      refine lv_iload_n hx hb dX11_window_32 rfl (lv_at hl 2 rfl) ?_
      refine lv_iload_n hx hb dX11_window_33 rfl (lv_at hl 3 rfl) ?_
      have hin_10 : vp_in f 4 := vpi_of (by omega) (by omega)
      refine va_iast hx hb hK hP hD hS 17 0 mw_at35 rfl hin_10 dX11_window_34 (fun H locs hP hD hS => ?_)
      have hP : va_P D vwCl (mw cI cZ h0 mq mi_2 (va_up ma_3 35 (upd (ma_3 35) f.toNatClampNeg g))) H := mwP_35 hP
      have hD : va_D A (mw cI cZ h0 mq mi_2 (va_up ma_3 35 (upd (ma_3 35) f.toNatClampNeg g))) := mwD_35 hD
      generalize hma_11 : va_up ma_3 35 (upd (ma_3 35) f.toNatClampNeg g) = ma_11 at hP hD
      have hI : MI ph (cl + 1) mi_2 ma_11 := by rw [← hma_11]; exact MIa_window hI (by omega) (by omega)
      have hFA : ∀ k, k ∉ ([35, 41] : List Nat) → ma_11 k = ma0 k := fun k hk => by rw [← hma_11]; exact (va_up_ne _ _ (fun e => hk (by rw [e]; decide))).trans (hFA k hk)
      have hE := bs_at hma_11 hE
      refine lv_aload_n hx hb dX11_window_35 rfl (lv_at hl 1 rfl) ?_
      refine va_get (D := D) (ci := 11) (v := .ref (mq 41)) (C := RX11) (T := TX11) (N := 74) hx hb ha inlX11 hown hK hP 0 mw_at0 rfl 41 (by decide) (ha _ kf_X11_91) (fun _ h9 => h9) rfl dX11_window_36 ?_
      refine lv_iload_n hx hb dX11_window_39 rfl (lv_at hl 2 rfl) ?_
      refine lv_aload_n hx hb dX11_window_40 rfl (lv_at hl 1 rfl) ?_
      refine va_get (D := D) (ci := 11) (v := .ref (mq 41)) (C := RX11) (T := TX11) (N := 74) hx hb ha inlX11 hown hK hP 0 mw_at0 rfl 41 (by decide) (ha _ kf_X11_91) (fun _ h9 => h9) rfl dX11_window_41 ?_
      refine lv_iload_n hx hb dX11_window_44 rfl (lv_at hl 2 rfl) ?_
      have hin_12 : vp_in f 4 := vpi_of (by omega) (by omega)
      refine va_zald hx hb hK hP 23 2 mw_at41 rfl hin_12 dX11_window_45 ?_
      refine lv_topi (fun x_13 ex_13 => ?_)
      have hE := bd_at ex_13 hE
      have u_x_13 := congrArg Int32.toInt ex_13
      refine lv_if_ne (tgt := 54) hx hb dX11_window_46 (by decide) (fun c_14 => ?_) (fun c_14 => ?_)
      · have t_c_14 := mt Int32.toInt_inj.mp c_14
        have hE := hE.trans (if_neg c_14)
        refine lv_iconst (v := 1) hx hb dX11_window_54 (by decide) ?_
        refine lv_goto (tgt := 59) hx hb dX11_window_55 (by decide) ?_
        have hin_15 : vp_in f 4 := vpi_of (by omega) (by omega)
        refine va_zast hx hb hK hP hD hS 23 2 mw_at41 rfl hin_15 dX11_window_59 (fun H locs hP hD hS => ?_)
        have hP : va_P D vwCl (mw cI cZ h0 mq mi_2 (va_up ma_11 41 (upd (ma_11 41) f.toNatClampNeg (vp_nar .boolean (1 : Int32))))) H := mwP_41 hP
        have hD : va_D A (mw cI cZ h0 mq mi_2 (va_up ma_11 41 (upd (ma_11 41) f.toNatClampNeg (vp_nar .boolean (1 : Int32))))) := mwD_41 hD
        generalize hma_16 : va_up ma_11 41 (upd (ma_11 41) f.toNatClampNeg (vp_nar .boolean (1 : Int32))) = ma_16 at hP hD
        have hI : MI ph cl mi_2 ma_16 := by rw [← hma_16]; exact MIc_changes hI
        have hFA : ∀ k, k ∉ ([35, 41] : List Nat) → ma_16 k = ma0 k := fun k hk => by rw [← hma_16]; exact (va_up_ne _ _ (fun e => hk (by rw [e]; decide))).trans (hFA k hk)
        have hE := bs_at hma_16 hE
        refine lv_iload_n hx hb dX11_window_60 rfl (lv_at hl 0 rfl) ?_
        exact W.iret (v := x_9) hx hb hr (fun t ht hW => ⟨⟨x_9, (), rfl, ⟨trivial, by rw [← hRES, hE]⟩, ⟨mi_2, ma_16, ⟨⟨hI, fun k hk => (hFI k hk).trans (by rw [hmi0]), fun k hk => (hFA k hk).trans (by rw [hma0])⟩, by rw [← hRES, hE], by rw [← hRES, hE]⟩, by rw [ht]; exact hP, va_K.moved hW.alike hK, hD⟩⟩, hS.F ht⟩) hS.2.2 dX11_window_61
      · have t_c_14 := congrArg Int32.toInt c_14
        have hE := hE.trans (if_pos c_14)
        refine lv_iload_n hx hb dX11_window_49 rfl (lv_at hl 0 rfl) ?_
        refine lv_iload_n hx hb dX11_window_50 rfl (lv_at hl 3 rfl) ?_
        refine lv_icmp_eq (tgt := 58) hx hb dX11_window_51 (by decide) (fun c_17 => ?_) (fun c_17 => ?_)
        · have t_c_17 := congrArg Int32.toInt c_17
          have hE := hE.trans (if_pos c_17)
          refine lv_iconst (v := 0) hx hb dX11_window_58 (by decide) ?_
          have hin_18 : vp_in f 4 := vpi_of (by omega) (by omega)
          refine va_zast hx hb hK hP hD hS 23 2 mw_at41 rfl hin_18 dX11_window_59 (fun H locs hP hD hS => ?_)
          have hP : va_P D vwCl (mw cI cZ h0 mq mi_2 (va_up ma_11 41 (upd (ma_11 41) f.toNatClampNeg (vp_nar .boolean (0 : Int32))))) H := mwP_41 hP
          have hD : va_D A (mw cI cZ h0 mq mi_2 (va_up ma_11 41 (upd (ma_11 41) f.toNatClampNeg (vp_nar .boolean (0 : Int32))))) := mwD_41 hD
          generalize hma_19 : va_up ma_11 41 (upd (ma_11 41) f.toNatClampNeg (vp_nar .boolean (0 : Int32))) = ma_19 at hP hD
          have hI : MI ph cl mi_2 ma_19 := by rw [← hma_19]; exact MIc_changes hI
          have hFA : ∀ k, k ∉ ([35, 41] : List Nat) → ma_19 k = ma0 k := fun k hk => by rw [← hma_19]; exact (va_up_ne _ _ (fun e => hk (by rw [e]; decide))).trans (hFA k hk)
          have hE := bs_at hma_19 hE
          refine lv_iload_n hx hb dX11_window_60 rfl (lv_at hl 0 rfl) ?_
          exact W.iret (v := x_9) hx hb hr (fun t ht hW => ⟨⟨x_9, (), rfl, ⟨trivial, by rw [← hRES, hE]⟩, ⟨mi_2, ma_19, ⟨⟨hI, fun k hk => (hFI k hk).trans (by rw [hmi0]), fun k hk => (hFA k hk).trans (by rw [hma0])⟩, by rw [← hRES, hE], by rw [← hRES, hE]⟩, by rw [ht]; exact hP, va_K.moved hW.alike hK, hD⟩⟩, hS.F ht⟩) hS.2.2 dX11_window_61
        · have t_c_17 := mt Int32.toInt_inj.mp c_17
          have hE := hE.trans (if_neg c_17)
          refine lv_iconst (v := 1) hx hb dX11_window_54 (by decide) ?_
          refine lv_goto (tgt := 59) hx hb dX11_window_55 (by decide) ?_
          have hin_20 : vp_in f 4 := vpi_of (by omega) (by omega)
          refine va_zast hx hb hK hP hD hS 23 2 mw_at41 rfl hin_20 dX11_window_59 (fun H locs hP hD hS => ?_)
          have hP : va_P D vwCl (mw cI cZ h0 mq mi_2 (va_up ma_11 41 (upd (ma_11 41) f.toNatClampNeg (vp_nar .boolean (1 : Int32))))) H := mwP_41 hP
          have hD : va_D A (mw cI cZ h0 mq mi_2 (va_up ma_11 41 (upd (ma_11 41) f.toNatClampNeg (vp_nar .boolean (1 : Int32))))) := mwD_41 hD
          generalize hma_21 : va_up ma_11 41 (upd (ma_11 41) f.toNatClampNeg (vp_nar .boolean (1 : Int32))) = ma_21 at hP hD
          have hI : MI ph cl mi_2 ma_21 := by rw [← hma_21]; exact MIc_changes hI
          have hFA : ∀ k, k ∉ ([35, 41] : List Nat) → ma_21 k = ma0 k := fun k hk => by rw [← hma_21]; exact (va_up_ne _ _ (fun e => hk (by rw [e]; decide))).trans (hFA k hk)
          have hE := bs_at hma_21 hE
          refine lv_iload_n hx hb dX11_window_60 rfl (lv_at hl 0 rfl) ?_
          exact W.iret (v := x_9) hx hb hr (fun t ht hW => ⟨⟨x_9, (), rfl, ⟨trivial, by rw [← hRES, hE]⟩, ⟨mi_2, ma_21, ⟨⟨hI, fun k hk => (hFI k hk).trans (by rw [hmi0]), fun k hk => (hFA k hk).trans (by rw [hma0])⟩, by rw [← hRES, hE], by rw [← hRES, hE]⟩, by rw [ht]; exact hP, va_K.moved hW.alike hK, hD⟩⟩, hS.F ht⟩) hS.2.2 dX11_window_61
    · have t_c_7 := congrArg Int32.toInt c_7
      have hE := hE.trans (if_pos c_7)
      refine lv_iconst (v := (-1)) hx hb dX11_window_19 (by decide) ?_
      have hI := MI_cl hI
      exact W.iret (v := (-1)) hx hb hr (fun t ht hW => ⟨⟨(-1), (), rfl, ⟨trivial, by rw [← hRES, hE]⟩, ⟨mi_2, ma_3, ⟨⟨hI, fun k hk => (hFI k hk).trans (by rw [hmi0]), fun k hk => (hFA k hk).trans (by rw [hma0])⟩, by rw [← hRES, hE], by rw [← hRES, hE]⟩, by rw [ht]; exact hP, va_K.moved hW.alike hK, hD⟩⟩, hS.F ht⟩) hS.2.2 dX11_window_20

set_option maxRecDepth 100000 in
def x_sender (f : Int32) (g : Int32) (mi : Nat → Int32) (ma : Nat → Nat → Int32) : XT := bc (x_isFlow f mi ma) (fun m1 a2 v3 => (if v3 = (0 : Int32) then (m1, a2, ((-1) : Int32)) else (if g = 0 then bd (a2 44 f.toNatClampNeg) (fun v24 => (m1, a2, v24)) else (if g = 1 then bd (a2 45 f.toNatClampNeg) (fun v23 => (m1, a2, v23)) else (if g = 2 then bd (a2 46 f.toNatClampNeg) (fun v22 => (m1, a2, v22)) else (if g = 3 then bd (a2 47 f.toNatClampNeg) (fun v21 => (m1, a2, v21)) else (if g = 4 then bd (a2 48 f.toNatClampNeg) (fun v20 => (m1, a2, v20)) else (if g = 5 then bd (a2 49 f.toNatClampNeg) (fun v19 => (m1, a2, v19)) else (if g = 6 then bd (a2 50 f.toNatClampNeg) (fun v18 => (m1, a2, v18)) else (if g = 7 then bd (a2 51 f.toNatClampNeg) (fun v17 => (m1, a2, v17)) else (if g = 8 then bd (a2 53 f.toNatClampNeg) (fun v16 => (m1, a2, v16)) else (if g = 9 then bd (a2 54 f.toNatClampNeg) (fun v15 => (if v15 = (0 : Int32) then (m1, a2, (0 : Int32)) else (m1, a2, (1 : Int32)))) else (if g = 10 then bd (a2 57 f.toNatClampNeg) (fun v14 => (m1, a2, v14)) else (if g = 11 then bd (a2 58 f.toNatClampNeg) (fun v13 => (m1, a2, v13)) else (if g = 12 then bd (a2 59 f.toNatClampNeg) (fun v12 => (m1, a2, v12)) else (if g = 13 then bd (a2 60 f.toNatClampNeg) (fun v11 => (m1, a2, v11)) else (if g = 14 then bd (a2 61 f.toNatClampNeg) (fun v10 => (m1, a2, v10)) else (if g = 15 then bd (a2 62 f.toNatClampNeg) (fun v9 => (m1, a2, v9)) else (if g = 16 then bd (a2 63 f.toNatClampNeg) (fun v8 => (m1, a2, v8)) else (if g = 17 then bd (a2 64 f.toNatClampNeg) (fun v7 => (m1, a2, v7)) else (if g = 18 then bc (x_out f m1 a2) (fun m4 a5 v6 => (m4, a5, v6)) else (m1, a2, ((-1) : Int32)))))))))))))))))))))))
set_option maxHeartbeats 4000000 in
set_option maxRecDepth 100000 in
theorem m_sender (l : Launch) (D : va_G) (cI cJ cZ cO : ClassId) (sz : Nat) (h0 : Nat) (mq : Nat → Nat) (mi : Nat → Int32) (ma : Nat → Nat → Int32) (ph : Nat) (cl : Int) (f g : Int32) (hI : MI ph cl mi ma) : Met l yX11_sender (wa yX11_sender cX11_sender 3 (some .int)) ({ frames := 2, cells := 0, slots := 0, locals := 47 }) (va_Pc [.ref h0, .int f, .int g] (pw_s D cI cJ cZ cO sz (mw cI cZ h0 mq mi ma))) (va_Qi (fun (r : Int32) (_ : Unit) => ((True) ∧ r = (x_sender f g mi ma).2.2)) (fun (_ : Unit) (t : State) => ∃ (mi2 : Nat → Int32) (ma2 : Nat → Nat → Int32), ((MI ph cl mi2 ma2 ∧ (∀ k, k ∉ ([73] : List Nat) → mi2 k = mi k) ∧ (∀ k, k ∉ ([] : List Nat) → ma2 k = ma k)) ∧ mi2 = (x_sender f g mi ma).1 ∧ ma2 = (x_sender f g mi ma).2.1) ∧ pw_t D cI cJ cZ cO (va_A (mw cI cZ h0 mq mi ma) sz) (mw cI cZ h0 mq mi2 ma2) t) (va_A (mw cI cZ h0 mq mi ma) sz)) 0 0 (va_A (mw cI cZ h0 mq mi ma) sz) := by
  refine Met.ofW (cc := cX11_sender) (maxL := 3) (ret := (some .int)) (by decide) rfl ?_
  intro p e s m args below meth c s₁ B hml hv
  obtain ⟨rfl, hsz, hP, hK, hD0, hN⟩ := hv
  have hx := B.exec
  have hb := B.bytes
  have hr := B.returns
  have hts := atoms_spec (ws := (wa yX11_sender cX11_sender 3 (some .int))) B.pre
  have ha : ∀ w ∈ wsL_law, w.before _ s = true := fun w h => hts w (List.mem_cons_of_mem _ h)
  have hown : s.vm.findClass RX11 = some m.cls := findClass_of_methodNamed B.named
  have hlocks := B.notSynchronized
  subst hsz
  have hD := hD0.self (sz := s.heap.size)
  generalize hAe : va_A (mw cI cZ h0 mq mi ma) s.heap.size = A at hD ⊢
  have hA : ∀ q : Nat, s.heap.size ≤ q → A q := fun q h => by rw [← hAe]; exact Or.inr h
  have hS : va_S A s.heap s.heap [] := va_S.rf
  have hP : va_P D vwCl (mw cI cZ h0 mq mi ma) s.heap := hP
  have hl := lv_entry ([.ref h0, .int f, .int g]) (n := 3) (Nat.le_of_ble_eq_true rfl)
  rw [lg_entry_eq]
  generalize (lg_sl ([.ref h0, .int f, .int g]) ++ List.replicate (3 - (lg_sl ([.ref h0, .int f, .int g])).length) Slot.unset).toArray = ls at hl ⊢
  have hl : lv_has ls 3 [(0, .ref h0), (1, .int f), (2, .int g)] := hl
  have kc_m1 := tk_m1
  have kc_0 := tk_0
  have kc_1 := tk_1
  obtain ⟨mi0, hmi0⟩ : ∃ y, y = mi := ⟨_, rfl⟩
  obtain ⟨ma0, hma0⟩ : ∃ y, y = ma := ⟨_, rfl⟩
  have hFI : ∀ k, k ∉ ([73] : List Nat) → mi k = mi0 k := fun k _ => by rw [hmi0]
  have hFA : ∀ k, k ∉ ([] : List Nat) → ma k = ma0 k := fun k _ => by rw [hma0]
  obtain ⟨QP, hQP⟩ : ∃ y : State → Prop, y = (MQ below (va_Qi (fun (r : Int32) (_ : Unit) => ((True) ∧ r = (x_sender f g mi ma).2.2)) (fun (_ : Unit) (t : State) => ∃ (mi2 : Nat → Int32) (ma2 : Nat → Nat → Int32), ((MI ph cl mi2 ma2 ∧ (∀ k, k ∉ ([73] : List Nat) → mi2 k = mi k) ∧ (∀ k, k ∉ ([] : List Nat) → ma2 k = ma k)) ∧ mi2 = (x_sender f g mi ma).1 ∧ ma2 = (x_sender f g mi ma).2.1) ∧ pw_t D cI cJ cZ cO A (mw cI cZ h0 mq mi2 ma2) t) A) #[(.ref h0 : Value), (.int f : Value), (.int g : Value)] s 0 0 A) := ⟨_, rfl⟩
  obtain ⟨RES, hRES⟩ : ∃ y, y = (x_sender f g mi ma) := ⟨_, rfl⟩
  -- from the entry
  have hE := hRES
  unfold x_sender at hE
  refine lv_aload_n hx hb dX11_sender_0 rfl (lv_at hl 0 rfl) ?_
  refine lv_iload_n hx hb dX11_sender_1 rfl (lv_at hl 1 rfl) ?_
  have hFc := va_freeW hD hS hA
  refine va_calli (va_runV (As := [.int f]) (rest := []) ⟨hx, hb, hml, hown, ha⟩ (m_isFlow l D cI cJ cZ cO _ h0 mq mi ma ph cl f hI.1) (cwV 1 ha (gaV kl_X11_195 km_X11_isFlow ks_X11_isFlow kz_X11 kd_X11_isFlow) rfl rfl rfl (by decide +kernel) ⟨Nat.le_of_ble_eq_true rfl, Nat.le_of_ble_eq_true rfl⟩) ⟨pw_blind, va_recv hK hP (ci := 11) (q0 := 0) rfl rfl, fun U hU hW => ⟨rfl, pw_start hU hW hP hK hD hN⟩⟩ rfl rfl hl.1 rfl (lv_room (Nat.le_of_ble_eq_true rfl)) dX11_sender_2 ⟨Nat.le_of_ble_eq_true rfl, Nat.le_of_ble_eq_true rfl⟩) hS (fun q _ h => hFc q h) hFc (fun r_1 u t H1 locs ht hvm hw hB hz1 hk1 hS => ?_)
  obtain ⟨mi_2, ma_3, ⟨hf_4, hX1, hX2⟩, hP, hK1, hD1⟩ := hB
  have hE := bc_at hX1 hX2 hw.2 hE
  rw [ht] at hP
  have hD := hD1.weaken (fun k q _ h => hFc q.1 h)
  clear hD1
  generalize H1 = H at hP hS ⊢
  refine W.widen (k := 0) (n := 0) (Nat.le_refl _) (Nat.le_refl _) ?_
  have hI : MI ph cl mi_2 ma_3 := ⟨hf_4.1, due_keep hI.2 (hf_4.2.1 4 (by decide)) (hf_4.2.1 10 (by decide)) (hf_4.2.1 11 (by decide)) (hf_4.2.1 12 (by decide)) (hf_4.2.1 17 (by decide)) (hf_4.2.1 18 (by decide)) (hf_4.2.1 19 (by decide)) (hf_4.2.2 13 (by decide)) (hf_4.2.2 20 (by decide)) (hf_4.2.2 40 (by decide)) (hf_4.2.2 41 (by decide))⟩
  have hFI : ∀ k, k ∉ ([73] : List Nat) → mi_2 k = mi0 k := fun k hk => (hf_4.2.1 k (fun h => hk (by revert h; exact sub_of (by decide) k))).trans (hFI k hk)
  have hFA : ∀ k, k ∉ ([] : List Nat) → ma_3 k = ma0 k := fun k hk => (hf_4.2.2 k (fun h => hk (by revert h; exact sub_of (by decide) k))).trans (hFA k hk)
  have hr_1 := hw.1
  refine lv_if_ne (tgt := 10) hx hb dX11_sender_5 (by decide) (fun c_5 => ?_) (fun c_5 => ?_)
  · have t_c_5 := mt Int32.toInt_inj.mp c_5
    have hE := hE.trans (if_neg c_5)
    have hif := hr_1.2 c_5
    have hff := hif.2.1
    have hf0 := hif.1
    have hf4 := hif.2.2
    have hfw : f.toInt < (mi_2 32).toInt := by rw [hf_4.2.1 32 (by decide)]; exact hff
    refine lv_iload_n hx hb dX11_sender_10 rfl (lv_at hl 2 rfl) ?_
    by_cases t_6_0 : g = 0
    · have hE := hE.trans (if_pos t_6_0)
      refine lv_tableIn (tgt := 100) (off := 89) hx hb dX11_sender_11 (by rw [t_6_0]; decide) (by rw [t_6_0]; decide) (by rw [t_6_0]; rfl) (by decide) ?_
      refine lv_aload_n hx hb dX11_sender_100 rfl (lv_at hl 0 rfl) ?_
      refine va_get (D := D) (ci := 11) (v := .ref (mq 44)) (C := RX11) (T := TX11) (N := 74) hx hb ha inlX11 hown hK hP 0 mw_at0 rfl 44 (by decide) (ha _ kf_X11_100) (fun _ h9 => h9) rfl dX11_sender_101 ?_
      refine lv_iload_n hx hb dX11_sender_104 rfl (lv_at hl 1 rfl) ?_
      have hin_7 : vp_in f 4 := vpi_of (by omega) (by omega)
      refine va_iald hx hb hK hP 26 0 mw_at44 rfl hin_7 dX11_sender_105 ?_
      refine lv_topi (fun x_8 ex_8 => ?_)
      have hE := bd_at ex_8 hE
      have u_x_8 := congrArg Int32.toInt ex_8
      have r_x_8 := rg_ld (MI_una hI) hin_7 ex_8
      exact W.iret (v := x_8) hx hb hr (fun t ht hW => ⟨⟨x_8, (), rfl, ⟨trivial, by rw [← hRES, hE]⟩, ⟨mi_2, ma_3, ⟨⟨hI, fun k hk => (hFI k hk).trans (by rw [hmi0]), fun k hk => (hFA k hk).trans (by rw [hma0])⟩, by rw [← hRES, hE], by rw [← hRES, hE]⟩, by rw [ht]; exact hP, va_K.moved hW.alike hK, hD⟩⟩, hS.F ht⟩) hS.2.2 dX11_sender_106
    have hE := hE.trans (if_neg t_6_0)
    by_cases t_6_1 : g = 1
    · have hE := hE.trans (if_pos t_6_1)
      refine lv_tableIn (tgt := 107) (off := 96) hx hb dX11_sender_11 (by rw [t_6_1]; decide) (by rw [t_6_1]; decide) (by rw [t_6_1]; rfl) (by decide) ?_
      refine lv_aload_n hx hb dX11_sender_107 rfl (lv_at hl 0 rfl) ?_
      refine va_get (D := D) (ci := 11) (v := .ref (mq 45)) (C := RX11) (T := TX11) (N := 74) hx hb ha inlX11 hown hK hP 0 mw_at0 rfl 45 (by decide) (ha _ kf_X11_103) (fun _ h9 => h9) rfl dX11_sender_108 ?_
      refine lv_iload_n hx hb dX11_sender_111 rfl (lv_at hl 1 rfl) ?_
      have hin_9 : vp_in f 4 := vpi_of (by omega) (by omega)
      refine va_iald hx hb hK hP 27 0 mw_at45 rfl hin_9 dX11_sender_112 ?_
      refine lv_topi (fun x_10 ex_10 => ?_)
      have hE := bd_at ex_10 hE
      have u_x_10 := congrArg Int32.toInt ex_10
      have r_x_10 := rg_ld (MI_nxt hI) hin_9 ex_10
      exact W.iret (v := x_10) hx hb hr (fun t ht hW => ⟨⟨x_10, (), rfl, ⟨trivial, by rw [← hRES, hE]⟩, ⟨mi_2, ma_3, ⟨⟨hI, fun k hk => (hFI k hk).trans (by rw [hmi0]), fun k hk => (hFA k hk).trans (by rw [hma0])⟩, by rw [← hRES, hE], by rw [← hRES, hE]⟩, by rw [ht]; exact hP, va_K.moved hW.alike hK, hD⟩⟩, hS.F ht⟩) hS.2.2 dX11_sender_113
    have hE := hE.trans (if_neg t_6_1)
    by_cases t_6_2 : g = 2
    · have hE := hE.trans (if_pos t_6_2)
      refine lv_tableIn (tgt := 114) (off := 103) hx hb dX11_sender_11 (by rw [t_6_2]; decide) (by rw [t_6_2]; decide) (by rw [t_6_2]; rfl) (by decide) ?_
      refine lv_aload_n hx hb dX11_sender_114 rfl (lv_at hl 0 rfl) ?_
      refine va_get (D := D) (ci := 11) (v := .ref (mq 46)) (C := RX11) (T := TX11) (N := 74) hx hb ha inlX11 hown hK hP 0 mw_at0 rfl 46 (by decide) (ha _ kf_X11_106) (fun _ h9 => h9) rfl dX11_sender_115 ?_
      refine lv_iload_n hx hb dX11_sender_118 rfl (lv_at hl 1 rfl) ?_
      have hin_11 : vp_in f 4 := vpi_of (by omega) (by omega)
      refine va_iald hx hb hK hP 28 0 mw_at46 rfl hin_11 dX11_sender_119 ?_
      refine lv_topi (fun x_12 ex_12 => ?_)
      have hE := bd_at ex_12 hE
      have u_x_12 := congrArg Int32.toInt ex_12
      have r_x_12 := rg_ld (MI_high hI) hin_11 ex_12
      exact W.iret (v := x_12) hx hb hr (fun t ht hW => ⟨⟨x_12, (), rfl, ⟨trivial, by rw [← hRES, hE]⟩, ⟨mi_2, ma_3, ⟨⟨hI, fun k hk => (hFI k hk).trans (by rw [hmi0]), fun k hk => (hFA k hk).trans (by rw [hma0])⟩, by rw [← hRES, hE], by rw [← hRES, hE]⟩, by rw [ht]; exact hP, va_K.moved hW.alike hK, hD⟩⟩, hS.F ht⟩) hS.2.2 dX11_sender_120
    have hE := hE.trans (if_neg t_6_2)
    by_cases t_6_3 : g = 3
    · have hE := hE.trans (if_pos t_6_3)
      refine lv_tableIn (tgt := 121) (off := 110) hx hb dX11_sender_11 (by rw [t_6_3]; decide) (by rw [t_6_3]; decide) (by rw [t_6_3]; rfl) (by decide) ?_
      refine lv_aload_n hx hb dX11_sender_121 rfl (lv_at hl 0 rfl) ?_
      refine va_get (D := D) (ci := 11) (v := .ref (mq 47)) (C := RX11) (T := TX11) (N := 74) hx hb ha inlX11 hown hK hP 0 mw_at0 rfl 47 (by decide) (ha _ kf_X11_109) (fun _ h9 => h9) rfl dX11_sender_122 ?_
      refine lv_iload_n hx hb dX11_sender_125 rfl (lv_at hl 1 rfl) ?_
      have hin_13 : vp_in f 4 := vpi_of (by omega) (by omega)
      refine va_iald hx hb hK hP 29 0 mw_at47 rfl hin_13 dX11_sender_126 ?_
      refine lv_topi (fun x_14 ex_14 => ?_)
      have hE := bd_at ex_14 hE
      have u_x_14 := congrArg Int32.toInt ex_14
      have r_x_14 := rg_ld (MI_cwnd hI) hin_13 ex_14
      exact W.iret (v := x_14) hx hb hr (fun t ht hW => ⟨⟨x_14, (), rfl, ⟨trivial, by rw [← hRES, hE]⟩, ⟨mi_2, ma_3, ⟨⟨hI, fun k hk => (hFI k hk).trans (by rw [hmi0]), fun k hk => (hFA k hk).trans (by rw [hma0])⟩, by rw [← hRES, hE], by rw [← hRES, hE]⟩, by rw [ht]; exact hP, va_K.moved hW.alike hK, hD⟩⟩, hS.F ht⟩) hS.2.2 dX11_sender_127
    have hE := hE.trans (if_neg t_6_3)
    by_cases t_6_4 : g = 4
    · have hE := hE.trans (if_pos t_6_4)
      refine lv_tableIn (tgt := 128) (off := 117) hx hb dX11_sender_11 (by rw [t_6_4]; decide) (by rw [t_6_4]; decide) (by rw [t_6_4]; rfl) (by decide) ?_
      refine lv_aload_n hx hb dX11_sender_128 rfl (lv_at hl 0 rfl) ?_
      refine va_get (D := D) (ci := 11) (v := .ref (mq 48)) (C := RX11) (T := TX11) (N := 74) hx hb ha inlX11 hown hK hP 0 mw_at0 rfl 48 (by decide) (ha _ kf_X11_112) (fun _ h9 => h9) rfl dX11_sender_129 ?_
      refine lv_iload_n hx hb dX11_sender_132 rfl (lv_at hl 1 rfl) ?_
      have hin_15 : vp_in f 4 := vpi_of (by omega) (by omega)
      refine va_iald hx hb hK hP 30 0 mw_at48 rfl hin_15 dX11_sender_133 ?_
      refine lv_topi (fun x_16 ex_16 => ?_)
      have hE := bd_at ex_16 hE
      have u_x_16 := congrArg Int32.toInt ex_16
      have r_x_16 := rg_ld (MI_ssthresh hI) hin_15 ex_16
      exact W.iret (v := x_16) hx hb hr (fun t ht hW => ⟨⟨x_16, (), rfl, ⟨trivial, by rw [← hRES, hE]⟩, ⟨mi_2, ma_3, ⟨⟨hI, fun k hk => (hFI k hk).trans (by rw [hmi0]), fun k hk => (hFA k hk).trans (by rw [hma0])⟩, by rw [← hRES, hE], by rw [← hRES, hE]⟩, by rw [ht]; exact hP, va_K.moved hW.alike hK, hD⟩⟩, hS.F ht⟩) hS.2.2 dX11_sender_134
    have hE := hE.trans (if_neg t_6_4)
    by_cases t_6_5 : g = 5
    · have hE := hE.trans (if_pos t_6_5)
      refine lv_tableIn (tgt := 135) (off := 124) hx hb dX11_sender_11 (by rw [t_6_5]; decide) (by rw [t_6_5]; decide) (by rw [t_6_5]; rfl) (by decide) ?_
      refine lv_aload_n hx hb dX11_sender_135 rfl (lv_at hl 0 rfl) ?_
      refine va_get (D := D) (ci := 11) (v := .ref (mq 49)) (C := RX11) (T := TX11) (N := 74) hx hb ha inlX11 hown hK hP 0 mw_at0 rfl 49 (by decide) (ha _ kf_X11_115) (fun _ h9 => h9) rfl dX11_sender_136 ?_
      refine lv_iload_n hx hb dX11_sender_139 rfl (lv_at hl 1 rfl) ?_
      have hin_17 : vp_in f 4 := vpi_of (by omega) (by omega)
      refine va_iald hx hb hK hP 31 0 mw_at49 rfl hin_17 dX11_sender_140 ?_
      refine lv_topi (fun x_18 ex_18 => ?_)
      have hE := bd_at ex_18 hE
      have u_x_18 := congrArg Int32.toInt ex_18
      exact W.iret (v := x_18) hx hb hr (fun t ht hW => ⟨⟨x_18, (), rfl, ⟨trivial, by rw [← hRES, hE]⟩, ⟨mi_2, ma_3, ⟨⟨hI, fun k hk => (hFI k hk).trans (by rw [hmi0]), fun k hk => (hFA k hk).trans (by rw [hma0])⟩, by rw [← hRES, hE], by rw [← hRES, hE]⟩, by rw [ht]; exact hP, va_K.moved hW.alike hK, hD⟩⟩, hS.F ht⟩) hS.2.2 dX11_sender_141
    have hE := hE.trans (if_neg t_6_5)
    by_cases t_6_6 : g = 6
    · have hE := hE.trans (if_pos t_6_6)
      refine lv_tableIn (tgt := 142) (off := 131) hx hb dX11_sender_11 (by rw [t_6_6]; decide) (by rw [t_6_6]; decide) (by rw [t_6_6]; rfl) (by decide) ?_
      refine lv_aload_n hx hb dX11_sender_142 rfl (lv_at hl 0 rfl) ?_
      refine va_get (D := D) (ci := 11) (v := .ref (mq 50)) (C := RX11) (T := TX11) (N := 74) hx hb ha inlX11 hown hK hP 0 mw_at0 rfl 50 (by decide) (ha _ kf_X11_118) (fun _ h9 => h9) rfl dX11_sender_143 ?_
      refine lv_iload_n hx hb dX11_sender_146 rfl (lv_at hl 1 rfl) ?_
      have hin_19 : vp_in f 4 := vpi_of (by omega) (by omega)
      refine va_iald hx hb hK hP 32 0 mw_at50 rfl hin_19 dX11_sender_147 ?_
      refine lv_topi (fun x_20 ex_20 => ?_)
      have hE := bd_at ex_20 hE
      have u_x_20 := congrArg Int32.toInt ex_20
      exact W.iret (v := x_20) hx hb hr (fun t ht hW => ⟨⟨x_20, (), rfl, ⟨trivial, by rw [← hRES, hE]⟩, ⟨mi_2, ma_3, ⟨⟨hI, fun k hk => (hFI k hk).trans (by rw [hmi0]), fun k hk => (hFA k hk).trans (by rw [hma0])⟩, by rw [← hRES, hE], by rw [← hRES, hE]⟩, by rw [ht]; exact hP, va_K.moved hW.alike hK, hD⟩⟩, hS.F ht⟩) hS.2.2 dX11_sender_148
    have hE := hE.trans (if_neg t_6_6)
    by_cases t_6_7 : g = 7
    · have hE := hE.trans (if_pos t_6_7)
      refine lv_tableIn (tgt := 149) (off := 138) hx hb dX11_sender_11 (by rw [t_6_7]; decide) (by rw [t_6_7]; decide) (by rw [t_6_7]; rfl) (by decide) ?_
      refine lv_aload_n hx hb dX11_sender_149 rfl (lv_at hl 0 rfl) ?_
      refine va_get (D := D) (ci := 11) (v := .ref (mq 51)) (C := RX11) (T := TX11) (N := 74) hx hb ha inlX11 hown hK hP 0 mw_at0 rfl 51 (by decide) (ha _ kf_X11_121) (fun _ h9 => h9) rfl dX11_sender_150 ?_
      refine lv_iload_n hx hb dX11_sender_153 rfl (lv_at hl 1 rfl) ?_
      have hin_21 : vp_in f 4 := vpi_of (by omega) (by omega)
      refine va_iald hx hb hK hP 33 0 mw_at51 rfl hin_21 dX11_sender_154 ?_
      refine lv_topi (fun x_22 ex_22 => ?_)
      have hE := bd_at ex_22 hE
      have u_x_22 := congrArg Int32.toInt ex_22
      exact W.iret (v := x_22) hx hb hr (fun t ht hW => ⟨⟨x_22, (), rfl, ⟨trivial, by rw [← hRES, hE]⟩, ⟨mi_2, ma_3, ⟨⟨hI, fun k hk => (hFI k hk).trans (by rw [hmi0]), fun k hk => (hFA k hk).trans (by rw [hma0])⟩, by rw [← hRES, hE], by rw [← hRES, hE]⟩, by rw [ht]; exact hP, va_K.moved hW.alike hK, hD⟩⟩, hS.F ht⟩) hS.2.2 dX11_sender_155
    have hE := hE.trans (if_neg t_6_7)
    by_cases t_6_8 : g = 8
    · have hE := hE.trans (if_pos t_6_8)
      refine lv_tableIn (tgt := 156) (off := 145) hx hb dX11_sender_11 (by rw [t_6_8]; decide) (by rw [t_6_8]; decide) (by rw [t_6_8]; rfl) (by decide) ?_
      refine lv_aload_n hx hb dX11_sender_156 rfl (lv_at hl 0 rfl) ?_
      refine va_get (D := D) (ci := 11) (v := .ref (mq 53)) (C := RX11) (T := TX11) (N := 74) hx hb ha inlX11 hown hK hP 0 mw_at0 rfl 53 (by decide) (ha _ kf_X11_127) (fun _ h9 => h9) rfl dX11_sender_157 ?_
      refine lv_iload_n hx hb dX11_sender_160 rfl (lv_at hl 1 rfl) ?_
      have hin_23 : vp_in f 4 := vpi_of (by omega) (by omega)
      refine va_iald hx hb hK hP 35 0 mw_at53 rfl hin_23 dX11_sender_161 ?_
      refine lv_topi (fun x_24 ex_24 => ?_)
      have hE := bd_at ex_24 hE
      have u_x_24 := congrArg Int32.toInt ex_24
      exact W.iret (v := x_24) hx hb hr (fun t ht hW => ⟨⟨x_24, (), rfl, ⟨trivial, by rw [← hRES, hE]⟩, ⟨mi_2, ma_3, ⟨⟨hI, fun k hk => (hFI k hk).trans (by rw [hmi0]), fun k hk => (hFA k hk).trans (by rw [hma0])⟩, by rw [← hRES, hE], by rw [← hRES, hE]⟩, by rw [ht]; exact hP, va_K.moved hW.alike hK, hD⟩⟩, hS.F ht⟩) hS.2.2 dX11_sender_162
    have hE := hE.trans (if_neg t_6_8)
    by_cases t_6_9 : g = 9
    · have hE := hE.trans (if_pos t_6_9)
      refine lv_tableIn (tgt := 163) (off := 152) hx hb dX11_sender_11 (by rw [t_6_9]; decide) (by rw [t_6_9]; decide) (by rw [t_6_9]; rfl) (by decide) ?_
      refine lv_aload_n hx hb dX11_sender_163 rfl (lv_at hl 0 rfl) ?_
      refine va_get (D := D) (ci := 11) (v := .ref (mq 54)) (C := RX11) (T := TX11) (N := 74) hx hb ha inlX11 hown hK hP 0 mw_at0 rfl 54 (by decide) (ha _ kf_X11_130) (fun _ h9 => h9) rfl dX11_sender_164 ?_
      refine lv_iload_n hx hb dX11_sender_167 rfl (lv_at hl 1 rfl) ?_
      have hin_25 : vp_in f 4 := vpi_of (by omega) (by omega)
      refine va_zald hx hb hK hP 36 2 mw_at54 rfl hin_25 dX11_sender_168 ?_
      refine lv_topi (fun x_26 ex_26 => ?_)
      have hE := bd_at ex_26 hE
      have u_x_26 := congrArg Int32.toInt ex_26
      refine lv_if_eq (tgt := 176) hx hb dX11_sender_169 (by decide) (fun c_27 => ?_) (fun c_27 => ?_)
      · have t_c_27 := congrArg Int32.toInt c_27
        have hE := hE.trans (if_pos c_27)
        refine lv_iconst (v := 0) hx hb dX11_sender_176 (by decide) ?_
        exact W.iret (v := 0) hx hb hr (fun t ht hW => ⟨⟨0, (), rfl, ⟨trivial, by rw [← hRES, hE]⟩, ⟨mi_2, ma_3, ⟨⟨hI, fun k hk => (hFI k hk).trans (by rw [hmi0]), fun k hk => (hFA k hk).trans (by rw [hma0])⟩, by rw [← hRES, hE], by rw [← hRES, hE]⟩, by rw [ht]; exact hP, va_K.moved hW.alike hK, hD⟩⟩, hS.F ht⟩) hS.2.2 dX11_sender_177
      · have t_c_27 := mt Int32.toInt_inj.mp c_27
        have hE := hE.trans (if_neg c_27)
        refine lv_iconst (v := 1) hx hb dX11_sender_172 (by decide) ?_
        refine lv_goto (tgt := 177) hx hb dX11_sender_173 (by decide) ?_
        exact W.iret (v := 1) hx hb hr (fun t ht hW => ⟨⟨1, (), rfl, ⟨trivial, by rw [← hRES, hE]⟩, ⟨mi_2, ma_3, ⟨⟨hI, fun k hk => (hFI k hk).trans (by rw [hmi0]), fun k hk => (hFA k hk).trans (by rw [hma0])⟩, by rw [← hRES, hE], by rw [← hRES, hE]⟩, by rw [ht]; exact hP, va_K.moved hW.alike hK, hD⟩⟩, hS.F ht⟩) hS.2.2 dX11_sender_177
    have hE := hE.trans (if_neg t_6_9)
    by_cases t_6_10 : g = 10
    · have hE := hE.trans (if_pos t_6_10)
      refine lv_tableIn (tgt := 178) (off := 167) hx hb dX11_sender_11 (by rw [t_6_10]; decide) (by rw [t_6_10]; decide) (by rw [t_6_10]; rfl) (by decide) ?_
      refine lv_aload_n hx hb dX11_sender_178 rfl (lv_at hl 0 rfl) ?_
      refine va_get (D := D) (ci := 11) (v := .ref (mq 57)) (C := RX11) (T := TX11) (N := 74) hx hb ha inlX11 hown hK hP 0 mw_at0 rfl 57 (by decide) (ha _ kf_X11_139) (fun _ h9 => h9) rfl dX11_sender_179 ?_
      refine lv_iload_n hx hb dX11_sender_182 rfl (lv_at hl 1 rfl) ?_
      have hin_28 : vp_in f 4 := vpi_of (by omega) (by omega)
      refine va_iald hx hb hK hP 39 0 mw_at57 rfl hin_28 dX11_sender_183 ?_
      refine lv_topi (fun x_29 ex_29 => ?_)
      have hE := bd_at ex_29 hE
      have u_x_29 := congrArg Int32.toInt ex_29
      exact W.iret (v := x_29) hx hb hr (fun t ht hW => ⟨⟨x_29, (), rfl, ⟨trivial, by rw [← hRES, hE]⟩, ⟨mi_2, ma_3, ⟨⟨hI, fun k hk => (hFI k hk).trans (by rw [hmi0]), fun k hk => (hFA k hk).trans (by rw [hma0])⟩, by rw [← hRES, hE], by rw [← hRES, hE]⟩, by rw [ht]; exact hP, va_K.moved hW.alike hK, hD⟩⟩, hS.F ht⟩) hS.2.2 dX11_sender_184
    have hE := hE.trans (if_neg t_6_10)
    by_cases t_6_11 : g = 11
    · have hE := hE.trans (if_pos t_6_11)
      refine lv_tableIn (tgt := 185) (off := 174) hx hb dX11_sender_11 (by rw [t_6_11]; decide) (by rw [t_6_11]; decide) (by rw [t_6_11]; rfl) (by decide) ?_
      refine lv_aload_n hx hb dX11_sender_185 rfl (lv_at hl 0 rfl) ?_
      refine va_get (D := D) (ci := 11) (v := .ref (mq 58)) (C := RX11) (T := TX11) (N := 74) hx hb ha inlX11 hown hK hP 0 mw_at0 rfl 58 (by decide) (ha _ kf_X11_142) (fun _ h9 => h9) rfl dX11_sender_186 ?_
      refine lv_iload_n hx hb dX11_sender_189 rfl (lv_at hl 1 rfl) ?_
      have hin_30 : vp_in f 4 := vpi_of (by omega) (by omega)
      refine va_iald hx hb hK hP 40 0 mw_at58 rfl hin_30 dX11_sender_190 ?_
      refine lv_topi (fun x_31 ex_31 => ?_)
      have hE := bd_at ex_31 hE
      have u_x_31 := congrArg Int32.toInt ex_31
      exact W.iret (v := x_31) hx hb hr (fun t ht hW => ⟨⟨x_31, (), rfl, ⟨trivial, by rw [← hRES, hE]⟩, ⟨mi_2, ma_3, ⟨⟨hI, fun k hk => (hFI k hk).trans (by rw [hmi0]), fun k hk => (hFA k hk).trans (by rw [hma0])⟩, by rw [← hRES, hE], by rw [← hRES, hE]⟩, by rw [ht]; exact hP, va_K.moved hW.alike hK, hD⟩⟩, hS.F ht⟩) hS.2.2 dX11_sender_191
    have hE := hE.trans (if_neg t_6_11)
    by_cases t_6_12 : g = 12
    · have hE := hE.trans (if_pos t_6_12)
      refine lv_tableIn (tgt := 192) (off := 181) hx hb dX11_sender_11 (by rw [t_6_12]; decide) (by rw [t_6_12]; decide) (by rw [t_6_12]; rfl) (by decide) ?_
      refine lv_aload_n hx hb dX11_sender_192 rfl (lv_at hl 0 rfl) ?_
      refine va_get (D := D) (ci := 11) (v := .ref (mq 59)) (C := RX11) (T := TX11) (N := 74) hx hb ha inlX11 hown hK hP 0 mw_at0 rfl 59 (by decide) (ha _ kf_X11_145) (fun _ h9 => h9) rfl dX11_sender_193 ?_
      refine lv_iload_n hx hb dX11_sender_196 rfl (lv_at hl 1 rfl) ?_
      have hin_32 : vp_in f 4 := vpi_of (by omega) (by omega)
      refine va_iald hx hb hK hP 41 0 mw_at59 rfl hin_32 dX11_sender_197 ?_
      refine lv_topi (fun x_33 ex_33 => ?_)
      have hE := bd_at ex_33 hE
      have u_x_33 := congrArg Int32.toInt ex_33
      exact W.iret (v := x_33) hx hb hr (fun t ht hW => ⟨⟨x_33, (), rfl, ⟨trivial, by rw [← hRES, hE]⟩, ⟨mi_2, ma_3, ⟨⟨hI, fun k hk => (hFI k hk).trans (by rw [hmi0]), fun k hk => (hFA k hk).trans (by rw [hma0])⟩, by rw [← hRES, hE], by rw [← hRES, hE]⟩, by rw [ht]; exact hP, va_K.moved hW.alike hK, hD⟩⟩, hS.F ht⟩) hS.2.2 dX11_sender_198
    have hE := hE.trans (if_neg t_6_12)
    by_cases t_6_13 : g = 13
    · have hE := hE.trans (if_pos t_6_13)
      refine lv_tableIn (tgt := 199) (off := 188) hx hb dX11_sender_11 (by rw [t_6_13]; decide) (by rw [t_6_13]; decide) (by rw [t_6_13]; rfl) (by decide) ?_
      refine lv_aload_n hx hb dX11_sender_199 rfl (lv_at hl 0 rfl) ?_
      refine va_get (D := D) (ci := 11) (v := .ref (mq 60)) (C := RX11) (T := TX11) (N := 74) hx hb ha inlX11 hown hK hP 0 mw_at0 rfl 60 (by decide) (ha _ kf_X11_148) (fun _ h9 => h9) rfl dX11_sender_200 ?_
      refine lv_iload_n hx hb dX11_sender_203 rfl (lv_at hl 1 rfl) ?_
      have hin_34 : vp_in f 4 := vpi_of (by omega) (by omega)
      refine va_iald hx hb hK hP 42 0 mw_at60 rfl hin_34 dX11_sender_204 ?_
      refine lv_topi (fun x_35 ex_35 => ?_)
      have hE := bd_at ex_35 hE
      have u_x_35 := congrArg Int32.toInt ex_35
      have r_x_35 := rg_ld (MI_w hI) hin_34 ex_35
      exact W.iret (v := x_35) hx hb hr (fun t ht hW => ⟨⟨x_35, (), rfl, ⟨trivial, by rw [← hRES, hE]⟩, ⟨mi_2, ma_3, ⟨⟨hI, fun k hk => (hFI k hk).trans (by rw [hmi0]), fun k hk => (hFA k hk).trans (by rw [hma0])⟩, by rw [← hRES, hE], by rw [← hRES, hE]⟩, by rw [ht]; exact hP, va_K.moved hW.alike hK, hD⟩⟩, hS.F ht⟩) hS.2.2 dX11_sender_205
    have hE := hE.trans (if_neg t_6_13)
    by_cases t_6_14 : g = 14
    · have hE := hE.trans (if_pos t_6_14)
      refine lv_tableIn (tgt := 206) (off := 195) hx hb dX11_sender_11 (by rw [t_6_14]; decide) (by rw [t_6_14]; decide) (by rw [t_6_14]; rfl) (by decide) ?_
      refine lv_aload_n hx hb dX11_sender_206 rfl (lv_at hl 0 rfl) ?_
      refine va_get (D := D) (ci := 11) (v := .ref (mq 61)) (C := RX11) (T := TX11) (N := 74) hx hb ha inlX11 hown hK hP 0 mw_at0 rfl 61 (by decide) (ha _ kf_X11_151) (fun _ h9 => h9) rfl dX11_sender_207 ?_
      refine lv_iload_n hx hb dX11_sender_210 rfl (lv_at hl 1 rfl) ?_
      have hin_36 : vp_in f 4 := vpi_of (by omega) (by omega)
      refine va_iald hx hb hK hP 43 0 mw_at61 rfl hin_36 dX11_sender_211 ?_
      refine lv_topi (fun x_37 ex_37 => ?_)
      have hE := bd_at ex_37 hE
      have u_x_37 := congrArg Int32.toInt ex_37
      exact W.iret (v := x_37) hx hb hr (fun t ht hW => ⟨⟨x_37, (), rfl, ⟨trivial, by rw [← hRES, hE]⟩, ⟨mi_2, ma_3, ⟨⟨hI, fun k hk => (hFI k hk).trans (by rw [hmi0]), fun k hk => (hFA k hk).trans (by rw [hma0])⟩, by rw [← hRES, hE], by rw [← hRES, hE]⟩, by rw [ht]; exact hP, va_K.moved hW.alike hK, hD⟩⟩, hS.F ht⟩) hS.2.2 dX11_sender_212
    have hE := hE.trans (if_neg t_6_14)
    by_cases t_6_15 : g = 15
    · have hE := hE.trans (if_pos t_6_15)
      refine lv_tableIn (tgt := 213) (off := 202) hx hb dX11_sender_11 (by rw [t_6_15]; decide) (by rw [t_6_15]; decide) (by rw [t_6_15]; rfl) (by decide) ?_
      refine lv_aload_n hx hb dX11_sender_213 rfl (lv_at hl 0 rfl) ?_
      refine va_get (D := D) (ci := 11) (v := .ref (mq 62)) (C := RX11) (T := TX11) (N := 74) hx hb ha inlX11 hown hK hP 0 mw_at0 rfl 62 (by decide) (ha _ kf_X11_154) (fun _ h9 => h9) rfl dX11_sender_214 ?_
      refine lv_iload_n hx hb dX11_sender_217 rfl (lv_at hl 1 rfl) ?_
      have hin_38 : vp_in f 4 := vpi_of (by omega) (by omega)
      refine va_iald hx hb hK hP 44 0 mw_at62 rfl hin_38 dX11_sender_218 ?_
      refine lv_topi (fun x_39 ex_39 => ?_)
      have hE := bd_at ex_39 hE
      have u_x_39 := congrArg Int32.toInt ex_39
      exact W.iret (v := x_39) hx hb hr (fun t ht hW => ⟨⟨x_39, (), rfl, ⟨trivial, by rw [← hRES, hE]⟩, ⟨mi_2, ma_3, ⟨⟨hI, fun k hk => (hFI k hk).trans (by rw [hmi0]), fun k hk => (hFA k hk).trans (by rw [hma0])⟩, by rw [← hRES, hE], by rw [← hRES, hE]⟩, by rw [ht]; exact hP, va_K.moved hW.alike hK, hD⟩⟩, hS.F ht⟩) hS.2.2 dX11_sender_219
    have hE := hE.trans (if_neg t_6_15)
    by_cases t_6_16 : g = 16
    · have hE := hE.trans (if_pos t_6_16)
      refine lv_tableIn (tgt := 220) (off := 209) hx hb dX11_sender_11 (by rw [t_6_16]; decide) (by rw [t_6_16]; decide) (by rw [t_6_16]; rfl) (by decide) ?_
      refine lv_aload_n hx hb dX11_sender_220 rfl (lv_at hl 0 rfl) ?_
      refine va_get (D := D) (ci := 11) (v := .ref (mq 63)) (C := RX11) (T := TX11) (N := 74) hx hb ha inlX11 hown hK hP 0 mw_at0 rfl 63 (by decide) (ha _ kf_X11_157) (fun _ h9 => h9) rfl dX11_sender_221 ?_
      refine lv_iload_n hx hb dX11_sender_224 rfl (lv_at hl 1 rfl) ?_
      have hin_40 : vp_in f 4 := vpi_of (by omega) (by omega)
      refine va_iald hx hb hK hP 45 0 mw_at63 rfl hin_40 dX11_sender_225 ?_
      refine lv_topi (fun x_41 ex_41 => ?_)
      have hE := bd_at ex_41 hE
      have u_x_41 := congrArg Int32.toInt ex_41
      have r_x_41 := rg_ld (MI_wmax hI) hin_40 ex_41
      exact W.iret (v := x_41) hx hb hr (fun t ht hW => ⟨⟨x_41, (), rfl, ⟨trivial, by rw [← hRES, hE]⟩, ⟨mi_2, ma_3, ⟨⟨hI, fun k hk => (hFI k hk).trans (by rw [hmi0]), fun k hk => (hFA k hk).trans (by rw [hma0])⟩, by rw [← hRES, hE], by rw [← hRES, hE]⟩, by rw [ht]; exact hP, va_K.moved hW.alike hK, hD⟩⟩, hS.F ht⟩) hS.2.2 dX11_sender_226
    have hE := hE.trans (if_neg t_6_16)
    by_cases t_6_17 : g = 17
    · have hE := hE.trans (if_pos t_6_17)
      refine lv_tableIn (tgt := 227) (off := 216) hx hb dX11_sender_11 (by rw [t_6_17]; decide) (by rw [t_6_17]; decide) (by rw [t_6_17]; rfl) (by decide) ?_
      refine lv_aload_n hx hb dX11_sender_227 rfl (lv_at hl 0 rfl) ?_
      refine va_get (D := D) (ci := 11) (v := .ref (mq 64)) (C := RX11) (T := TX11) (N := 74) hx hb ha inlX11 hown hK hP 0 mw_at0 rfl 64 (by decide) (ha _ kf_X11_160) (fun _ h9 => h9) rfl dX11_sender_228 ?_
      refine lv_iload_n hx hb dX11_sender_231 rfl (lv_at hl 1 rfl) ?_
      have hin_42 : vp_in f 4 := vpi_of (by omega) (by omega)
      refine va_iald hx hb hK hP 46 0 mw_at64 rfl hin_42 dX11_sender_232 ?_
      refine lv_topi (fun x_43 ex_43 => ?_)
      have hE := bd_at ex_43 hE
      have u_x_43 := congrArg Int32.toInt ex_43
      exact W.iret (v := x_43) hx hb hr (fun t ht hW => ⟨⟨x_43, (), rfl, ⟨trivial, by rw [← hRES, hE]⟩, ⟨mi_2, ma_3, ⟨⟨hI, fun k hk => (hFI k hk).trans (by rw [hmi0]), fun k hk => (hFA k hk).trans (by rw [hma0])⟩, by rw [← hRES, hE], by rw [← hRES, hE]⟩, by rw [ht]; exact hP, va_K.moved hW.alike hK, hD⟩⟩, hS.F ht⟩) hS.2.2 dX11_sender_233
    have hE := hE.trans (if_neg t_6_17)
    by_cases t_6_18 : g = 18
    · have hE := hE.trans (if_pos t_6_18)
      refine lv_tableIn (tgt := 234) (off := 223) hx hb dX11_sender_11 (by rw [t_6_18]; decide) (by rw [t_6_18]; decide) (by rw [t_6_18]; rfl) (by decide) ?_
      refine lv_aload_n hx hb dX11_sender_234 rfl (lv_at hl 0 rfl) ?_
      refine lv_iload_n hx hb dX11_sender_235 rfl (lv_at hl 1 rfl) ?_
      have hFc := va_freeW hD hS hA
      refine va_calli (va_runV (As := [.int f]) (rest := []) ⟨hx, hb, hml, hown, ha⟩ (m_out l D cI cJ cZ cO _ h0 mq mi_2 ma_3 ph cl f hI.1 hf0 hf4) (cwV 1 ha (gaV kl_X11_341 km_X11_out ks_X11_out kz_X11 kd_X11_out) rfl rfl rfl (by decide +kernel) ⟨Nat.le_of_ble_eq_true rfl, Nat.le_of_ble_eq_true rfl⟩) ⟨pw_blind, va_recv hK hP (ci := 11) (q0 := 0) rfl rfl, fun U hU hW => ⟨rfl, pw_start hU hW hP hK hD hN⟩⟩ rfl rfl hl.1 rfl (lv_room (Nat.le_of_ble_eq_true rfl)) dX11_sender_236 ⟨Nat.le_of_ble_eq_true rfl, Nat.le_of_ble_eq_true rfl⟩) hS (fun q _ h => hFc q h) hFc (fun r_44 u t H1 locs ht hvm hw hB hz1 hk1 hS => ?_)
      obtain ⟨mi_45, ma_46, ⟨hf_47, hX1, hX2⟩, hP, hK1, hD1⟩ := hB
      have hE := bc_at hX1 hX2 hw.2 hE
      rw [ht] at hP
      have hD := hD1.weaken (fun k q _ h => hFc q.1 h)
      clear hD1
      generalize H1 = H at hP hS ⊢
      refine W.widen (k := 0) (n := 0) (Nat.le_refl _) (Nat.le_refl _) ?_
      have hI : MI ph cl mi_45 ma_46 := ⟨hf_47.1, due_keep hI.2 (hf_47.2.1 4 (by decide)) (hf_47.2.1 10 (by decide)) (hf_47.2.1 11 (by decide)) (hf_47.2.1 12 (by decide)) (hf_47.2.1 17 (by decide)) (hf_47.2.1 18 (by decide)) (hf_47.2.1 19 (by decide)) (hf_47.2.2.1 13 (by decide)) (hf_47.2.2.1 20 (by decide)) (hf_47.2.2.1 40 (by decide)) (hf_47.2.2.1 41 (by decide))⟩
      have hFI : ∀ k, k ∉ ([73] : List Nat) → mi_45 k = mi0 k := fun k hk => (hf_47.2.1 k (fun h => hk (by revert h; exact sub_of (by decide) k))).trans (hFI k hk)
      have hFA : ∀ k, k ∉ ([] : List Nat) → ma_46 k = ma0 k := fun k hk => (hf_47.2.2.1 k (fun h => hk (by revert h; exact sub_of (by decide) k))).trans (hFA k hk)
      have hr_44 := hw.1
      exact W.iret (v := r_44) hx hb hr (fun t ht hW => ⟨⟨r_44, (), rfl, ⟨trivial, by rw [← hRES, hE]⟩, ⟨mi_45, ma_46, ⟨⟨hI, fun k hk => (hFI k hk).trans (by rw [hmi0]), fun k hk => (hFA k hk).trans (by rw [hma0])⟩, by rw [← hRES, hE], by rw [← hRES, hE]⟩, by rw [ht]; exact hP, va_K.moved hW.alike hK, hD⟩⟩, hS.F ht⟩) hS.2.2 dX11_sender_239
    have hE := hE.trans (if_neg t_6_18)
    refine lv_tableOut (tgt := 240) hx hb dX11_sender_11 (by have h0 := lv_neT (a := 0) t_6_0 (by decide); have h1 := lv_neT (a := 1) t_6_1 (by decide); have h2 := lv_neT (a := 2) t_6_2 (by decide); have h3 := lv_neT (a := 3) t_6_3 (by decide); have h4 := lv_neT (a := 4) t_6_4 (by decide); have h5 := lv_neT (a := 5) t_6_5 (by decide); have h6 := lv_neT (a := 6) t_6_6 (by decide); have h7 := lv_neT (a := 7) t_6_7 (by decide); have h8 := lv_neT (a := 8) t_6_8 (by decide); have h9 := lv_neT (a := 9) t_6_9 (by decide); have h10 := lv_neT (a := 10) t_6_10 (by decide); have h11 := lv_neT (a := 11) t_6_11 (by decide); have h12 := lv_neT (a := 12) t_6_12 (by decide); have h13 := lv_neT (a := 13) t_6_13 (by decide); have h14 := lv_neT (a := 14) t_6_14 (by decide); have h15 := lv_neT (a := 15) t_6_15 (by decide); have h16 := lv_neT (a := 16) t_6_16 (by decide); have h17 := lv_neT (a := 17) t_6_17 (by decide); have h18 := lv_neT (a := 18) t_6_18 (by decide); omega) (by decide) ?_
    refine lv_iconst (v := (-1)) hx hb dX11_sender_240 (by decide) ?_
    exact W.iret (v := (-1)) hx hb hr (fun t ht hW => ⟨⟨(-1), (), rfl, ⟨trivial, by rw [← hRES, hE]⟩, ⟨mi_2, ma_3, ⟨⟨hI, fun k hk => (hFI k hk).trans (by rw [hmi0]), fun k hk => (hFA k hk).trans (by rw [hma0])⟩, by rw [← hRES, hE], by rw [← hRES, hE]⟩, by rw [ht]; exact hP, va_K.moved hW.alike hK, hD⟩⟩, hS.F ht⟩) hS.2.2 dX11_sender_241
  · have t_c_5 := congrArg Int32.toInt c_5
    have hE := hE.trans (if_pos c_5)
    refine lv_iconst (v := (-1)) hx hb dX11_sender_8 (by decide) ?_
    exact W.iret (v := (-1)) hx hb hr (fun t ht hW => ⟨⟨(-1), (), rfl, ⟨trivial, by rw [← hRES, hE]⟩, ⟨mi_2, ma_3, ⟨⟨hI, fun k hk => (hFI k hk).trans (by rw [hmi0]), fun k hk => (hFA k hk).trans (by rw [hma0])⟩, by rw [← hRES, hE], by rw [← hRES, hE]⟩, by rw [ht]; exact hP, va_K.moved hW.alike hK, hD⟩⟩, hS.F ht⟩) hS.2.2 dX11_sender_9

set_option maxRecDepth 100000 in
def x_receiver (f : Int32) (g : Int32) (mi : Nat → Int32) (ma : Nat → Nat → Int32) : XT := bc (x_isFlow f mi ma) (fun m1 a2 v3 => (if v3 = (0 : Int32) then (m1, a2, ((-1) : Int32)) else (if g = 0 then bd (a2 34 f.toNatClampNeg) (fun v12 => (m1, a2, v12)) else (if g = 1 then bc (x_keptMany f m1 a2) (fun m9 a10 v11 => (m9, a10, v11)) else (if g = 2 then bd (a2 35 f.toNatClampNeg) (fun v8 => (m1, a2, v8)) else (if g = 3 then bd (a2 37 f.toNatClampNeg) (fun v7 => (m1, a2, v7)) else (if g = 4 then bd (a2 38 f.toNatClampNeg) (fun v6 => (m1, a2, v6)) else (if g = 5 then bd (a2 39 f.toNatClampNeg) (fun v5 => (m1, a2, v5)) else (if g = 6 then bd (a2 40 f.toNatClampNeg) (fun v4 => (m1, a2, v4)) else (m1, a2, ((-1) : Int32)))))))))))
set_option maxHeartbeats 4000000 in
set_option maxRecDepth 100000 in
theorem m_receiver (l : Launch) (D : va_G) (cI cJ cZ cO : ClassId) (sz : Nat) (h0 : Nat) (mq : Nat → Nat) (mi : Nat → Int32) (ma : Nat → Nat → Int32) (ph : Nat) (cl : Int) (f g : Int32) (hI : MI ph cl mi ma) : Met l yX11_receiver (wa yX11_receiver cX11_receiver 3 (some .int)) ({ frames := 1, cells := 0, slots := 0, locals := 23 }) (va_Pc [.ref h0, .int f, .int g] (pw_s D cI cJ cZ cO sz (mw cI cZ h0 mq mi ma))) (va_Qi (fun (r : Int32) (_ : Unit) => ((True) ∧ r = (x_receiver f g mi ma).2.2)) (fun (_ : Unit) (t : State) => ∃ (mi2 : Nat → Int32) (ma2 : Nat → Nat → Int32), ((MI ph cl mi2 ma2 ∧ (∀ k, k ∉ ([] : List Nat) → mi2 k = mi k) ∧ (∀ k, k ∉ ([] : List Nat) → ma2 k = ma k)) ∧ mi2 = (x_receiver f g mi ma).1 ∧ ma2 = (x_receiver f g mi ma).2.1) ∧ pw_t D cI cJ cZ cO (va_A (mw cI cZ h0 mq mi ma) sz) (mw cI cZ h0 mq mi2 ma2) t) (va_A (mw cI cZ h0 mq mi ma) sz)) 0 0 (va_A (mw cI cZ h0 mq mi ma) sz) := by
  refine Met.ofW (cc := cX11_receiver) (maxL := 3) (ret := (some .int)) (by decide) rfl ?_
  intro p e s m args below meth c s₁ B hml hv
  obtain ⟨rfl, hsz, hP, hK, hD0, hN⟩ := hv
  have hx := B.exec
  have hb := B.bytes
  have hr := B.returns
  have hts := atoms_spec (ws := (wa yX11_receiver cX11_receiver 3 (some .int))) B.pre
  have ha : ∀ w ∈ wsL_law, w.before _ s = true := fun w h => hts w (List.mem_cons_of_mem _ h)
  have hown : s.vm.findClass RX11 = some m.cls := findClass_of_methodNamed B.named
  have hlocks := B.notSynchronized
  subst hsz
  have hD := hD0.self (sz := s.heap.size)
  generalize hAe : va_A (mw cI cZ h0 mq mi ma) s.heap.size = A at hD ⊢
  have hA : ∀ q : Nat, s.heap.size ≤ q → A q := fun q h => by rw [← hAe]; exact Or.inr h
  have hS : va_S A s.heap s.heap [] := va_S.rf
  have hP : va_P D vwCl (mw cI cZ h0 mq mi ma) s.heap := hP
  have hl := lv_entry ([.ref h0, .int f, .int g]) (n := 3) (Nat.le_of_ble_eq_true rfl)
  rw [lg_entry_eq]
  generalize (lg_sl ([.ref h0, .int f, .int g]) ++ List.replicate (3 - (lg_sl ([.ref h0, .int f, .int g])).length) Slot.unset).toArray = ls at hl ⊢
  have hl : lv_has ls 3 [(0, .ref h0), (1, .int f), (2, .int g)] := hl
  have kc_m1 := tk_m1
  have kc_0 := tk_0
  have kc_1 := tk_1
  obtain ⟨mi0, hmi0⟩ : ∃ y, y = mi := ⟨_, rfl⟩
  obtain ⟨ma0, hma0⟩ : ∃ y, y = ma := ⟨_, rfl⟩
  have hFI : ∀ k, k ∉ ([] : List Nat) → mi k = mi0 k := fun k _ => by rw [hmi0]
  have hFA : ∀ k, k ∉ ([] : List Nat) → ma k = ma0 k := fun k _ => by rw [hma0]
  obtain ⟨QP, hQP⟩ : ∃ y : State → Prop, y = (MQ below (va_Qi (fun (r : Int32) (_ : Unit) => ((True) ∧ r = (x_receiver f g mi ma).2.2)) (fun (_ : Unit) (t : State) => ∃ (mi2 : Nat → Int32) (ma2 : Nat → Nat → Int32), ((MI ph cl mi2 ma2 ∧ (∀ k, k ∉ ([] : List Nat) → mi2 k = mi k) ∧ (∀ k, k ∉ ([] : List Nat) → ma2 k = ma k)) ∧ mi2 = (x_receiver f g mi ma).1 ∧ ma2 = (x_receiver f g mi ma).2.1) ∧ pw_t D cI cJ cZ cO A (mw cI cZ h0 mq mi2 ma2) t) A) #[(.ref h0 : Value), (.int f : Value), (.int g : Value)] s 0 0 A) := ⟨_, rfl⟩
  obtain ⟨RES, hRES⟩ : ∃ y, y = (x_receiver f g mi ma) := ⟨_, rfl⟩
  -- from the entry
  have hE := hRES
  unfold x_receiver at hE
  refine lv_aload_n hx hb dX11_receiver_0 rfl (lv_at hl 0 rfl) ?_
  refine lv_iload_n hx hb dX11_receiver_1 rfl (lv_at hl 1 rfl) ?_
  have hFc := va_freeW hD hS hA
  refine va_calli (va_runV (As := [.int f]) (rest := []) ⟨hx, hb, hml, hown, ha⟩ (m_isFlow l D cI cJ cZ cO _ h0 mq mi ma ph cl f hI.1) (cwV 1 ha (gaV kl_X11_195 km_X11_isFlow ks_X11_isFlow kz_X11 kd_X11_isFlow) rfl rfl rfl (by decide +kernel) ⟨Nat.le_of_ble_eq_true rfl, Nat.le_of_ble_eq_true rfl⟩) ⟨pw_blind, va_recv hK hP (ci := 11) (q0 := 0) rfl rfl, fun U hU hW => ⟨rfl, pw_start hU hW hP hK hD hN⟩⟩ rfl rfl hl.1 rfl (lv_room (Nat.le_of_ble_eq_true rfl)) dX11_receiver_2 ⟨Nat.le_of_ble_eq_true rfl, Nat.le_of_ble_eq_true rfl⟩) hS (fun q _ h => hFc q h) hFc (fun r_1 u t H1 locs ht hvm hw hB hz1 hk1 hS => ?_)
  obtain ⟨mi_2, ma_3, ⟨hf_4, hX1, hX2⟩, hP, hK1, hD1⟩ := hB
  have hE := bc_at hX1 hX2 hw.2 hE
  rw [ht] at hP
  have hD := hD1.weaken (fun k q _ h => hFc q.1 h)
  clear hD1
  generalize H1 = H at hP hS ⊢
  refine W.widen (k := 0) (n := 0) (Nat.le_refl _) (Nat.le_refl _) ?_
  have hI : MI ph cl mi_2 ma_3 := ⟨hf_4.1, due_keep hI.2 (hf_4.2.1 4 (by decide)) (hf_4.2.1 10 (by decide)) (hf_4.2.1 11 (by decide)) (hf_4.2.1 12 (by decide)) (hf_4.2.1 17 (by decide)) (hf_4.2.1 18 (by decide)) (hf_4.2.1 19 (by decide)) (hf_4.2.2 13 (by decide)) (hf_4.2.2 20 (by decide)) (hf_4.2.2 40 (by decide)) (hf_4.2.2 41 (by decide))⟩
  have hFI : ∀ k, k ∉ ([] : List Nat) → mi_2 k = mi0 k := fun k hk => (hf_4.2.1 k (fun h => hk (by revert h; exact sub_of (by decide) k))).trans (hFI k hk)
  have hFA : ∀ k, k ∉ ([] : List Nat) → ma_3 k = ma0 k := fun k hk => (hf_4.2.2 k (fun h => hk (by revert h; exact sub_of (by decide) k))).trans (hFA k hk)
  have hr_1 := hw.1
  refine lv_if_ne (tgt := 10) hx hb dX11_receiver_5 (by decide) (fun c_5 => ?_) (fun c_5 => ?_)
  · have t_c_5 := mt Int32.toInt_inj.mp c_5
    have hE := hE.trans (if_neg c_5)
    have hif := hr_1.2 c_5
    have hff := hif.2.1
    have hf0 := hif.1
    have hf4 := hif.2.2
    have hfw : f.toInt < (mi_2 32).toInt := by rw [hf_4.2.1 32 (by decide)]; exact hff
    refine lv_iload_n hx hb dX11_receiver_10 rfl (lv_at hl 2 rfl) ?_
    by_cases t_6_0 : g = 0
    · have hE := hE.trans (if_pos t_6_0)
      refine lv_tableIn (tgt := 52) (off := 41) hx hb dX11_receiver_11 (by rw [t_6_0]; decide) (by rw [t_6_0]; decide) (by rw [t_6_0]; rfl) (by decide) ?_
      refine lv_aload_n hx hb dX11_receiver_52 rfl (lv_at hl 0 rfl) ?_
      refine va_get (D := D) (ci := 11) (v := .ref (mq 34)) (C := RX11) (T := TX11) (N := 74) hx hb ha inlX11 hown hK hP 0 mw_at0 rfl 34 (by decide) (ha _ kf_X11_70) (fun _ h9 => h9) rfl dX11_receiver_53 ?_
      refine lv_iload_n hx hb dX11_receiver_56 rfl (lv_at hl 1 rfl) ?_
      have hin_7 : vp_in f 4 := vpi_of (by omega) (by omega)
      refine va_iald hx hb hK hP 16 0 mw_at34 rfl hin_7 dX11_receiver_57 ?_
      refine lv_topi (fun x_8 ex_8 => ?_)
      have hE := bd_at ex_8 hE
      have u_x_8 := congrArg Int32.toInt ex_8
      have r_x_8 := rg_ld (MI_wanted hI) hin_7 ex_8
      exact W.iret (v := x_8) hx hb hr (fun t ht hW => ⟨⟨x_8, (), rfl, ⟨trivial, by rw [← hRES, hE]⟩, ⟨mi_2, ma_3, ⟨⟨hI, fun k hk => (hFI k hk).trans (by rw [hmi0]), fun k hk => (hFA k hk).trans (by rw [hma0])⟩, by rw [← hRES, hE], by rw [← hRES, hE]⟩, by rw [ht]; exact hP, va_K.moved hW.alike hK, hD⟩⟩, hS.F ht⟩) hS.2.2 dX11_receiver_58
    have hE := hE.trans (if_neg t_6_0)
    by_cases t_6_1 : g = 1
    · have hE := hE.trans (if_pos t_6_1)
      refine lv_tableIn (tgt := 59) (off := 48) hx hb dX11_receiver_11 (by rw [t_6_1]; decide) (by rw [t_6_1]; decide) (by rw [t_6_1]; rfl) (by decide) ?_
      refine lv_aload_n hx hb dX11_receiver_59 rfl (lv_at hl 0 rfl) ?_
      refine lv_iload_n hx hb dX11_receiver_60 rfl (lv_at hl 1 rfl) ?_
      have hFc := va_freeW hD hS hA
      refine va_calli (va_runV (As := [.int f]) (rest := []) ⟨hx, hb, hml, hown, ha⟩ (m_keptMany l D cI cJ cZ cO _ h0 mq mi_2 ma_3 ph cl f hI.1 hf0 hf4) (cwV 1 ha (gaV kl_X11_260 km_X11_keptMany ks_X11_keptMany kz_X11 kd_X11_keptMany) rfl rfl rfl (by decide +kernel) ⟨Nat.le_of_ble_eq_true rfl, Nat.le_of_ble_eq_true rfl⟩) ⟨pw_blind, va_recv hK hP (ci := 11) (q0 := 0) rfl rfl, fun U hU hW => ⟨rfl, pw_start hU hW hP hK hD hN⟩⟩ rfl rfl hl.1 rfl (lv_room (Nat.le_of_ble_eq_true rfl)) dX11_receiver_61 ⟨Nat.le_of_ble_eq_true rfl, Nat.le_of_ble_eq_true rfl⟩) hS (fun q _ h => hFc q h) hFc (fun r_9 u t H1 locs ht hvm hw hB hz1 hk1 hS => ?_)
      obtain ⟨mi_10, ma_11, ⟨hf_12, hX1, hX2⟩, hP, hK1, hD1⟩ := hB
      have hE := bc_at hX1 hX2 hw.2 hE
      rw [ht] at hP
      have hD := hD1.weaken (fun k q _ h => hFc q.1 h)
      clear hD1
      generalize H1 = H at hP hS ⊢
      refine W.widen (k := 0) (n := 0) (Nat.le_refl _) (Nat.le_refl _) ?_
      have hI : MI ph cl mi_10 ma_11 := ⟨hf_12.1, due_keep hI.2 (hf_12.2.1 4 (by decide)) (hf_12.2.1 10 (by decide)) (hf_12.2.1 11 (by decide)) (hf_12.2.1 12 (by decide)) (hf_12.2.1 17 (by decide)) (hf_12.2.1 18 (by decide)) (hf_12.2.1 19 (by decide)) (hf_12.2.2 13 (by decide)) (hf_12.2.2 20 (by decide)) (hf_12.2.2 40 (by decide)) (hf_12.2.2 41 (by decide))⟩
      have hFI : ∀ k, k ∉ ([] : List Nat) → mi_10 k = mi0 k := fun k hk => (hf_12.2.1 k (fun h => hk (by revert h; exact sub_of (by decide) k))).trans (hFI k hk)
      have hFA : ∀ k, k ∉ ([] : List Nat) → ma_11 k = ma0 k := fun k hk => (hf_12.2.2 k (fun h => hk (by revert h; exact sub_of (by decide) k))).trans (hFA k hk)
      have hr_9 := hw.1
      exact W.iret (v := r_9) hx hb hr (fun t ht hW => ⟨⟨r_9, (), rfl, ⟨trivial, by rw [← hRES, hE]⟩, ⟨mi_10, ma_11, ⟨⟨hI, fun k hk => (hFI k hk).trans (by rw [hmi0]), fun k hk => (hFA k hk).trans (by rw [hma0])⟩, by rw [← hRES, hE], by rw [← hRES, hE]⟩, by rw [ht]; exact hP, va_K.moved hW.alike hK, hD⟩⟩, hS.F ht⟩) hS.2.2 dX11_receiver_64
    have hE := hE.trans (if_neg t_6_1)
    by_cases t_6_2 : g = 2
    · have hE := hE.trans (if_pos t_6_2)
      refine lv_tableIn (tgt := 65) (off := 54) hx hb dX11_receiver_11 (by rw [t_6_2]; decide) (by rw [t_6_2]; decide) (by rw [t_6_2]; rfl) (by decide) ?_
      refine lv_aload_n hx hb dX11_receiver_65 rfl (lv_at hl 0 rfl) ?_
      refine va_get (D := D) (ci := 11) (v := .ref (mq 35)) (C := RX11) (T := TX11) (N := 74) hx hb ha inlX11 hown hK hP 0 mw_at0 rfl 35 (by decide) (ha _ kf_X11_73) (fun _ h9 => h9) rfl dX11_receiver_66 ?_
      refine lv_iload_n hx hb dX11_receiver_69 rfl (lv_at hl 1 rfl) ?_
      have hin_13 : vp_in f 4 := vpi_of (by omega) (by omega)
      refine va_iald hx hb hK hP 17 0 mw_at35 rfl hin_13 dX11_receiver_70 ?_
      refine lv_topi (fun x_14 ex_14 => ?_)
      have hE := bd_at ex_14 hE
      have u_x_14 := congrArg Int32.toInt ex_14
      have r_x_14 := rg_ld (MI_window hI) hin_13 ex_14
      exact W.iret (v := x_14) hx hb hr (fun t ht hW => ⟨⟨x_14, (), rfl, ⟨trivial, by rw [← hRES, hE]⟩, ⟨mi_2, ma_3, ⟨⟨hI, fun k hk => (hFI k hk).trans (by rw [hmi0]), fun k hk => (hFA k hk).trans (by rw [hma0])⟩, by rw [← hRES, hE], by rw [← hRES, hE]⟩, by rw [ht]; exact hP, va_K.moved hW.alike hK, hD⟩⟩, hS.F ht⟩) hS.2.2 dX11_receiver_71
    have hE := hE.trans (if_neg t_6_2)
    by_cases t_6_3 : g = 3
    · have hE := hE.trans (if_pos t_6_3)
      refine lv_tableIn (tgt := 72) (off := 61) hx hb dX11_receiver_11 (by rw [t_6_3]; decide) (by rw [t_6_3]; decide) (by rw [t_6_3]; rfl) (by decide) ?_
      refine lv_aload_n hx hb dX11_receiver_72 rfl (lv_at hl 0 rfl) ?_
      refine va_get (D := D) (ci := 11) (v := .ref (mq 37)) (C := RX11) (T := TX11) (N := 74) hx hb ha inlX11 hown hK hP 0 mw_at0 rfl 37 (by decide) (ha _ kf_X11_79) (fun _ h9 => h9) rfl dX11_receiver_73 ?_
      refine lv_iload_n hx hb dX11_receiver_76 rfl (lv_at hl 1 rfl) ?_
      have hin_15 : vp_in f 4 := vpi_of (by omega) (by omega)
      refine va_iald hx hb hK hP 19 0 mw_at37 rfl hin_15 dX11_receiver_77 ?_
      refine lv_topi (fun x_16 ex_16 => ?_)
      have hE := bd_at ex_16 hE
      have u_x_16 := congrArg Int32.toInt ex_16
      exact W.iret (v := x_16) hx hb hr (fun t ht hW => ⟨⟨x_16, (), rfl, ⟨trivial, by rw [← hRES, hE]⟩, ⟨mi_2, ma_3, ⟨⟨hI, fun k hk => (hFI k hk).trans (by rw [hmi0]), fun k hk => (hFA k hk).trans (by rw [hma0])⟩, by rw [← hRES, hE], by rw [← hRES, hE]⟩, by rw [ht]; exact hP, va_K.moved hW.alike hK, hD⟩⟩, hS.F ht⟩) hS.2.2 dX11_receiver_78
    have hE := hE.trans (if_neg t_6_3)
    by_cases t_6_4 : g = 4
    · have hE := hE.trans (if_pos t_6_4)
      refine lv_tableIn (tgt := 79) (off := 68) hx hb dX11_receiver_11 (by rw [t_6_4]; decide) (by rw [t_6_4]; decide) (by rw [t_6_4]; rfl) (by decide) ?_
      refine lv_aload_n hx hb dX11_receiver_79 rfl (lv_at hl 0 rfl) ?_
      refine va_get (D := D) (ci := 11) (v := .ref (mq 38)) (C := RX11) (T := TX11) (N := 74) hx hb ha inlX11 hown hK hP 0 mw_at0 rfl 38 (by decide) (ha _ kf_X11_82) (fun _ h9 => h9) rfl dX11_receiver_80 ?_
      refine lv_iload_n hx hb dX11_receiver_83 rfl (lv_at hl 1 rfl) ?_
      have hin_17 : vp_in f 4 := vpi_of (by omega) (by omega)
      refine va_iald hx hb hK hP 20 0 mw_at38 rfl hin_17 dX11_receiver_84 ?_
      refine lv_topi (fun x_18 ex_18 => ?_)
      have hE := bd_at ex_18 hE
      have u_x_18 := congrArg Int32.toInt ex_18
      exact W.iret (v := x_18) hx hb hr (fun t ht hW => ⟨⟨x_18, (), rfl, ⟨trivial, by rw [← hRES, hE]⟩, ⟨mi_2, ma_3, ⟨⟨hI, fun k hk => (hFI k hk).trans (by rw [hmi0]), fun k hk => (hFA k hk).trans (by rw [hma0])⟩, by rw [← hRES, hE], by rw [← hRES, hE]⟩, by rw [ht]; exact hP, va_K.moved hW.alike hK, hD⟩⟩, hS.F ht⟩) hS.2.2 dX11_receiver_85
    have hE := hE.trans (if_neg t_6_4)
    by_cases t_6_5 : g = 5
    · have hE := hE.trans (if_pos t_6_5)
      refine lv_tableIn (tgt := 86) (off := 75) hx hb dX11_receiver_11 (by rw [t_6_5]; decide) (by rw [t_6_5]; decide) (by rw [t_6_5]; rfl) (by decide) ?_
      refine lv_aload_n hx hb dX11_receiver_86 rfl (lv_at hl 0 rfl) ?_
      refine va_get (D := D) (ci := 11) (v := .ref (mq 39)) (C := RX11) (T := TX11) (N := 74) hx hb ha inlX11 hown hK hP 0 mw_at0 rfl 39 (by decide) (ha _ kf_X11_85) (fun _ h9 => h9) rfl dX11_receiver_87 ?_
      refine lv_iload_n hx hb dX11_receiver_90 rfl (lv_at hl 1 rfl) ?_
      have hin_19 : vp_in f 4 := vpi_of (by omega) (by omega)
      refine va_iald hx hb hK hP 21 0 mw_at39 rfl hin_19 dX11_receiver_91 ?_
      refine lv_topi (fun x_20 ex_20 => ?_)
      have hE := bd_at ex_20 hE
      have u_x_20 := congrArg Int32.toInt ex_20
      exact W.iret (v := x_20) hx hb hr (fun t ht hW => ⟨⟨x_20, (), rfl, ⟨trivial, by rw [← hRES, hE]⟩, ⟨mi_2, ma_3, ⟨⟨hI, fun k hk => (hFI k hk).trans (by rw [hmi0]), fun k hk => (hFA k hk).trans (by rw [hma0])⟩, by rw [← hRES, hE], by rw [← hRES, hE]⟩, by rw [ht]; exact hP, va_K.moved hW.alike hK, hD⟩⟩, hS.F ht⟩) hS.2.2 dX11_receiver_92
    have hE := hE.trans (if_neg t_6_5)
    by_cases t_6_6 : g = 6
    · have hE := hE.trans (if_pos t_6_6)
      refine lv_tableIn (tgt := 93) (off := 82) hx hb dX11_receiver_11 (by rw [t_6_6]; decide) (by rw [t_6_6]; decide) (by rw [t_6_6]; rfl) (by decide) ?_
      refine lv_aload_n hx hb dX11_receiver_93 rfl (lv_at hl 0 rfl) ?_
      refine va_get (D := D) (ci := 11) (v := .ref (mq 40)) (C := RX11) (T := TX11) (N := 74) hx hb ha inlX11 hown hK hP 0 mw_at0 rfl 40 (by decide) (ha _ kf_X11_88) (fun _ h9 => h9) rfl dX11_receiver_94 ?_
      refine lv_iload_n hx hb dX11_receiver_97 rfl (lv_at hl 1 rfl) ?_
      have hin_21 : vp_in f 4 := vpi_of (by omega) (by omega)
      refine va_iald hx hb hK hP 22 0 mw_at40 rfl hin_21 dX11_receiver_98 ?_
      refine lv_topi (fun x_22 ex_22 => ?_)
      have hE := bd_at ex_22 hE
      have u_x_22 := congrArg Int32.toInt ex_22
      exact W.iret (v := x_22) hx hb hr (fun t ht hW => ⟨⟨x_22, (), rfl, ⟨trivial, by rw [← hRES, hE]⟩, ⟨mi_2, ma_3, ⟨⟨hI, fun k hk => (hFI k hk).trans (by rw [hmi0]), fun k hk => (hFA k hk).trans (by rw [hma0])⟩, by rw [← hRES, hE], by rw [← hRES, hE]⟩, by rw [ht]; exact hP, va_K.moved hW.alike hK, hD⟩⟩, hS.F ht⟩) hS.2.2 dX11_receiver_99
    have hE := hE.trans (if_neg t_6_6)
    refine lv_tableOut (tgt := 100) hx hb dX11_receiver_11 (by have h0 := lv_neT (a := 0) t_6_0 (by decide); have h1 := lv_neT (a := 1) t_6_1 (by decide); have h2 := lv_neT (a := 2) t_6_2 (by decide); have h3 := lv_neT (a := 3) t_6_3 (by decide); have h4 := lv_neT (a := 4) t_6_4 (by decide); have h5 := lv_neT (a := 5) t_6_5 (by decide); have h6 := lv_neT (a := 6) t_6_6 (by decide); omega) (by decide) ?_
    refine lv_iconst (v := (-1)) hx hb dX11_receiver_100 (by decide) ?_
    exact W.iret (v := (-1)) hx hb hr (fun t ht hW => ⟨⟨(-1), (), rfl, ⟨trivial, by rw [← hRES, hE]⟩, ⟨mi_2, ma_3, ⟨⟨hI, fun k hk => (hFI k hk).trans (by rw [hmi0]), fun k hk => (hFA k hk).trans (by rw [hma0])⟩, by rw [← hRES, hE], by rw [← hRES, hE]⟩, by rw [ht]; exact hP, va_K.moved hW.alike hK, hD⟩⟩, hS.F ht⟩) hS.2.2 dX11_receiver_101
  · have t_c_5 := congrArg Int32.toInt c_5
    have hE := hE.trans (if_pos c_5)
    refine lv_iconst (v := (-1)) hx hb dX11_receiver_8 (by decide) ?_
    exact W.iret (v := (-1)) hx hb hr (fun t ht hW => ⟨⟨(-1), (), rfl, ⟨trivial, by rw [← hRES, hE]⟩, ⟨mi_2, ma_3, ⟨⟨hI, fun k hk => (hFI k hk).trans (by rw [hmi0]), fun k hk => (hFA k hk).trans (by rw [hma0])⟩, by rw [← hRES, hE], by rw [← hRES, hE]⟩, by rw [ht]; exact hP, va_K.moved hW.alike hK, hD⟩⟩, hS.F ht⟩) hS.2.2 dX11_receiver_9

set_option maxRecDepth 100000 in
def x_most (f : Int32) (mi : Nat → Int32) (ma : Nat → Nat → Int32) : XT := bc (x_isFlow f mi ma) (fun m1 a2 v3 => (if v3 = (0 : Int32) then (m1, a2, (0 : Int32)) else bd (a2 68 f.toNatClampNeg) (fun v4 => (m1, a2, v4))))
set_option maxHeartbeats 4000000 in
set_option maxRecDepth 100000 in
theorem m_most (l : Launch) (D : va_G) (cI cJ cZ cO : ClassId) (sz : Nat) (h0 : Nat) (mq : Nat → Nat) (mi : Nat → Int32) (ma : Nat → Nat → Int32) (ph : Nat) (cl : Int) (f : Int32) (hI : MI ph cl mi ma) : Met l yX11_most (wa yX11_most cX11_most 2 (some .int)) ({ frames := 1, cells := 0, slots := 0, locals := 21 }) (va_Pc [.ref h0, .int f] (pw_s D cI cJ cZ cO sz (mw cI cZ h0 mq mi ma))) (va_Qi (fun (r : Int32) (_ : Unit) => ((True) ∧ r = (x_most f mi ma).2.2)) (fun (_ : Unit) (t : State) => ∃ (mi2 : Nat → Int32) (ma2 : Nat → Nat → Int32), ((MI ph cl mi2 ma2 ∧ (∀ k, k ∉ ([] : List Nat) → mi2 k = mi k) ∧ (∀ k, k ∉ ([] : List Nat) → ma2 k = ma k)) ∧ mi2 = (x_most f mi ma).1 ∧ ma2 = (x_most f mi ma).2.1) ∧ pw_t D cI cJ cZ cO (va_A (mw cI cZ h0 mq mi ma) sz) (mw cI cZ h0 mq mi2 ma2) t) (va_A (mw cI cZ h0 mq mi ma) sz)) 0 0 (va_A (mw cI cZ h0 mq mi ma) sz) := by
  refine Met.ofW (cc := cX11_most) (maxL := 2) (ret := (some .int)) (by decide) rfl ?_
  intro p e s m args below meth c s₁ B hml hv
  obtain ⟨rfl, hsz, hP, hK, hD0, hN⟩ := hv
  have hx := B.exec
  have hb := B.bytes
  have hr := B.returns
  have hts := atoms_spec (ws := (wa yX11_most cX11_most 2 (some .int))) B.pre
  have ha : ∀ w ∈ wsL_law, w.before _ s = true := fun w h => hts w (List.mem_cons_of_mem _ h)
  have hown : s.vm.findClass RX11 = some m.cls := findClass_of_methodNamed B.named
  have hlocks := B.notSynchronized
  subst hsz
  have hD := hD0.self (sz := s.heap.size)
  generalize hAe : va_A (mw cI cZ h0 mq mi ma) s.heap.size = A at hD ⊢
  have hA : ∀ q : Nat, s.heap.size ≤ q → A q := fun q h => by rw [← hAe]; exact Or.inr h
  have hS : va_S A s.heap s.heap [] := va_S.rf
  have hP : va_P D vwCl (mw cI cZ h0 mq mi ma) s.heap := hP
  have hl := lv_entry ([.ref h0, .int f]) (n := 2) (Nat.le_of_ble_eq_true rfl)
  rw [lg_entry_eq]
  generalize (lg_sl ([.ref h0, .int f]) ++ List.replicate (2 - (lg_sl ([.ref h0, .int f])).length) Slot.unset).toArray = ls at hl ⊢
  have hl : lv_has ls 2 [(0, .ref h0), (1, .int f)] := hl
  have kc_m1 := tk_m1
  have kc_0 := tk_0
  have kc_1 := tk_1
  obtain ⟨mi0, hmi0⟩ : ∃ y, y = mi := ⟨_, rfl⟩
  obtain ⟨ma0, hma0⟩ : ∃ y, y = ma := ⟨_, rfl⟩
  have hFI : ∀ k, k ∉ ([] : List Nat) → mi k = mi0 k := fun k _ => by rw [hmi0]
  have hFA : ∀ k, k ∉ ([] : List Nat) → ma k = ma0 k := fun k _ => by rw [hma0]
  obtain ⟨QP, hQP⟩ : ∃ y : State → Prop, y = (MQ below (va_Qi (fun (r : Int32) (_ : Unit) => ((True) ∧ r = (x_most f mi ma).2.2)) (fun (_ : Unit) (t : State) => ∃ (mi2 : Nat → Int32) (ma2 : Nat → Nat → Int32), ((MI ph cl mi2 ma2 ∧ (∀ k, k ∉ ([] : List Nat) → mi2 k = mi k) ∧ (∀ k, k ∉ ([] : List Nat) → ma2 k = ma k)) ∧ mi2 = (x_most f mi ma).1 ∧ ma2 = (x_most f mi ma).2.1) ∧ pw_t D cI cJ cZ cO A (mw cI cZ h0 mq mi2 ma2) t) A) #[(.ref h0 : Value), (.int f : Value)] s 0 0 A) := ⟨_, rfl⟩
  obtain ⟨RES, hRES⟩ : ∃ y, y = (x_most f mi ma) := ⟨_, rfl⟩
  -- from the entry
  have hE := hRES
  unfold x_most at hE
  refine lv_aload_n hx hb dX11_most_0 rfl (lv_at hl 0 rfl) ?_
  refine lv_iload_n hx hb dX11_most_1 rfl (lv_at hl 1 rfl) ?_
  have hFc := va_freeW hD hS hA
  refine va_calli (va_runV (As := [.int f]) (rest := []) ⟨hx, hb, hml, hown, ha⟩ (m_isFlow l D cI cJ cZ cO _ h0 mq mi ma ph cl f hI.1) (cwV 1 ha (gaV kl_X11_195 km_X11_isFlow ks_X11_isFlow kz_X11 kd_X11_isFlow) rfl rfl rfl (by decide +kernel) ⟨Nat.le_of_ble_eq_true rfl, Nat.le_of_ble_eq_true rfl⟩) ⟨pw_blind, va_recv hK hP (ci := 11) (q0 := 0) rfl rfl, fun U hU hW => ⟨rfl, pw_start hU hW hP hK hD hN⟩⟩ rfl rfl hl.1 rfl (lv_room (Nat.le_of_ble_eq_true rfl)) dX11_most_2 ⟨Nat.le_of_ble_eq_true rfl, Nat.le_of_ble_eq_true rfl⟩) hS (fun q _ h => hFc q h) hFc (fun r_1 u t H1 locs ht hvm hw hB hz1 hk1 hS => ?_)
  obtain ⟨mi_2, ma_3, ⟨hf_4, hX1, hX2⟩, hP, hK1, hD1⟩ := hB
  have hE := bc_at hX1 hX2 hw.2 hE
  rw [ht] at hP
  have hD := hD1.weaken (fun k q _ h => hFc q.1 h)
  clear hD1
  generalize H1 = H at hP hS ⊢
  refine W.widen (k := 0) (n := 0) (Nat.le_refl _) (Nat.le_refl _) ?_
  have hI : MI ph cl mi_2 ma_3 := ⟨hf_4.1, due_keep hI.2 (hf_4.2.1 4 (by decide)) (hf_4.2.1 10 (by decide)) (hf_4.2.1 11 (by decide)) (hf_4.2.1 12 (by decide)) (hf_4.2.1 17 (by decide)) (hf_4.2.1 18 (by decide)) (hf_4.2.1 19 (by decide)) (hf_4.2.2 13 (by decide)) (hf_4.2.2 20 (by decide)) (hf_4.2.2 40 (by decide)) (hf_4.2.2 41 (by decide))⟩
  have hFI : ∀ k, k ∉ ([] : List Nat) → mi_2 k = mi0 k := fun k hk => (hf_4.2.1 k (fun h => hk (by revert h; exact sub_of (by decide) k))).trans (hFI k hk)
  have hFA : ∀ k, k ∉ ([] : List Nat) → ma_3 k = ma0 k := fun k hk => (hf_4.2.2 k (fun h => hk (by revert h; exact sub_of (by decide) k))).trans (hFA k hk)
  have hr_1 := hw.1
  refine lv_if_eq (tgt := 17) hx hb dX11_most_5 (by decide) (fun c_5 => ?_) (fun c_5 => ?_)
  · have t_c_5 := congrArg Int32.toInt c_5
    have hE := hE.trans (if_pos c_5)
    refine lv_iconst (v := 0) hx hb dX11_most_17 (by decide) ?_
    exact W.iret (v := 0) hx hb hr (fun t ht hW => ⟨⟨0, (), rfl, ⟨trivial, by rw [← hRES, hE]⟩, ⟨mi_2, ma_3, ⟨⟨hI, fun k hk => (hFI k hk).trans (by rw [hmi0]), fun k hk => (hFA k hk).trans (by rw [hma0])⟩, by rw [← hRES, hE], by rw [← hRES, hE]⟩, by rw [ht]; exact hP, va_K.moved hW.alike hK, hD⟩⟩, hS.F ht⟩) hS.2.2 dX11_most_18
  · have t_c_5 := mt Int32.toInt_inj.mp c_5
    have hE := hE.trans (if_neg c_5)
    have hif := hr_1.2 c_5
    have hff := hif.2.1
    have hf0 := hif.1
    have hf4 := hif.2.2
    have hfw : f.toInt < (mi_2 32).toInt := by rw [hf_4.2.1 32 (by decide)]; exact hff
    refine lv_aload_n hx hb dX11_most_8 rfl (lv_at hl 0 rfl) ?_
    refine va_get (D := D) (ci := 11) (v := .ref (mq 68)) (C := RX11) (T := TX11) (N := 74) hx hb ha inlX11 hown hK hP 0 mw_at0 rfl 68 (by decide) (ha _ kf_X11_172) (fun _ h9 => h9) rfl dX11_most_9 ?_
    refine lv_iload_n hx hb dX11_most_12 rfl (lv_at hl 1 rfl) ?_
    have hin_6 : vp_in f 4 := vpi_of (by omega) (by omega)
    refine va_iald hx hb hK hP 50 0 mw_at68 rfl hin_6 dX11_most_13 ?_
    refine lv_topi (fun x_7 ex_7 => ?_)
    have hE := bd_at ex_7 hE
    have u_x_7 := congrArg Int32.toInt ex_7
    refine lv_goto (tgt := 18) hx hb dX11_most_14 (by decide) ?_
    exact W.iret (v := x_7) hx hb hr (fun t ht hW => ⟨⟨x_7, (), rfl, ⟨trivial, by rw [← hRES, hE]⟩, ⟨mi_2, ma_3, ⟨⟨hI, fun k hk => (hFI k hk).trans (by rw [hmi0]), fun k hk => (hFA k hk).trans (by rw [hma0])⟩, by rw [← hRES, hE], by rw [← hRES, hE]⟩, by rw [ht]; exact hP, va_K.moved hW.alike hK, hD⟩⟩, hS.F ht⟩) hS.2.2 dX11_most_18

set_option maxRecDepth 100000 in
def x_kept_19 (f : Int32) (g : Int32) : Nat → (Nat → Int32) → (Nat → Nat → Int32) → Int32 → Int32 → XT
  | 0, mi, ma, _, _ => (mi, ma, 0)
  | fu + 1, mi, ma, i3, i4 => (if (200 : Int32) ≤ i4 then (mi, ma, ((-1) : Int32)) else bd ((200 : Int32) * f) (fun v1 => bd (v1 + i4) (fun v2 => bd (ma 36 v2.toNatClampNeg) (fun v3 => (if v3 = (0 : Int32) then bd (i4 + 1) (fun v8 => x_kept_19 f g fu mi ma i3 v8) else (if i3 = g then bd (ma 34 f.toNatClampNeg) (fun v6 => bd (v6 + i4) (fun v7 => (mi, ma, v7))) else bd (i3 + 1) (fun v4 => bd (i4 + 1) (fun v5 => x_kept_19 f g fu mi ma v4 v5))))))))
set_option maxRecDepth 100000 in
def x_kept (f : Int32) (g : Int32) (mi : Nat → Int32) (ma : Nat → Nat → Int32) : XT := bc (x_isFlow f mi ma) (fun m9 a10 v11 => (if v11 = (0 : Int32) then (m9, a10, ((-1) : Int32)) else (if (0 : Int32) ≤ g then x_kept_19 f g 201 m9 a10 (0 : Int32) (0 : Int32) else (m9, a10, ((-1) : Int32)))))
set_option maxHeartbeats 4000000 in
set_option maxRecDepth 100000 in
theorem m_kept (l : Launch) (D : va_G) (cI cJ cZ cO : ClassId) (sz : Nat) (h0 : Nat) (mq : Nat → Nat) (mi : Nat → Int32) (ma : Nat → Nat → Int32) (ph : Nat) (cl : Int) (f g : Int32) (hI : MI ph cl mi ma) : Met l yX11_kept (wa yX11_kept cX11_kept 5 (some .int)) ({ frames := 1, cells := 0, slots := 0, locals := 21 }) (va_Pc [.ref h0, .int f, .int g] (pw_s D cI cJ cZ cO sz (mw cI cZ h0 mq mi ma))) (va_Qi (fun (r : Int32) (_ : Unit) => ((True) ∧ r = (x_kept f g mi ma).2.2)) (fun (_ : Unit) (t : State) => ∃ (mi2 : Nat → Int32) (ma2 : Nat → Nat → Int32), ((MI ph cl mi2 ma2 ∧ (∀ k, k ∉ ([] : List Nat) → mi2 k = mi k) ∧ (∀ k, k ∉ ([] : List Nat) → ma2 k = ma k)) ∧ mi2 = (x_kept f g mi ma).1 ∧ ma2 = (x_kept f g mi ma).2.1) ∧ pw_t D cI cJ cZ cO (va_A (mw cI cZ h0 mq mi ma) sz) (mw cI cZ h0 mq mi2 ma2) t) (va_A (mw cI cZ h0 mq mi ma) sz)) 0 0 (va_A (mw cI cZ h0 mq mi ma) sz) := by
  refine Met.ofW (cc := cX11_kept) (maxL := 5) (ret := (some .int)) (by decide) rfl ?_
  intro p e s m args below meth c s₁ B hml hv
  obtain ⟨rfl, hsz, hP, hK, hD0, hN⟩ := hv
  have hx := B.exec
  have hb := B.bytes
  have hr := B.returns
  have hts := atoms_spec (ws := (wa yX11_kept cX11_kept 5 (some .int))) B.pre
  have ha : ∀ w ∈ wsL_law, w.before _ s = true := fun w h => hts w (List.mem_cons_of_mem _ h)
  have hown : s.vm.findClass RX11 = some m.cls := findClass_of_methodNamed B.named
  have hlocks := B.notSynchronized
  subst hsz
  have hD := hD0.self (sz := s.heap.size)
  generalize hAe : va_A (mw cI cZ h0 mq mi ma) s.heap.size = A at hD ⊢
  have hA : ∀ q : Nat, s.heap.size ≤ q → A q := fun q h => by rw [← hAe]; exact Or.inr h
  have hS : va_S A s.heap s.heap [] := va_S.rf
  have hP : va_P D vwCl (mw cI cZ h0 mq mi ma) s.heap := hP
  have hl := lv_entry ([.ref h0, .int f, .int g]) (n := 5) (Nat.le_of_ble_eq_true rfl)
  rw [lg_entry_eq]
  generalize (lg_sl ([.ref h0, .int f, .int g]) ++ List.replicate (5 - (lg_sl ([.ref h0, .int f, .int g])).length) Slot.unset).toArray = ls at hl ⊢
  have hl : lv_has ls 5 [(0, .ref h0), (1, .int f), (2, .int g)] := hl
  have kc_m1 := tk_m1
  have kc_0 := tk_0
  have kc_1 := tk_1
  have kc_200 := tk_200
  obtain ⟨mi0, hmi0⟩ : ∃ y, y = mi := ⟨_, rfl⟩
  obtain ⟨ma0, hma0⟩ : ∃ y, y = ma := ⟨_, rfl⟩
  have hFI : ∀ k, k ∉ ([] : List Nat) → mi k = mi0 k := fun k _ => by rw [hmi0]
  have hFA : ∀ k, k ∉ ([] : List Nat) → ma k = ma0 k := fun k _ => by rw [hma0]
  obtain ⟨QP, hQP⟩ : ∃ y : State → Prop, y = (MQ below (va_Qi (fun (r : Int32) (_ : Unit) => ((True) ∧ r = (x_kept f g mi ma).2.2)) (fun (_ : Unit) (t : State) => ∃ (mi2 : Nat → Int32) (ma2 : Nat → Nat → Int32), ((MI ph cl mi2 ma2 ∧ (∀ k, k ∉ ([] : List Nat) → mi2 k = mi k) ∧ (∀ k, k ∉ ([] : List Nat) → ma2 k = ma k)) ∧ mi2 = (x_kept f g mi ma).1 ∧ ma2 = (x_kept f g mi ma).2.1) ∧ pw_t D cI cJ cZ cO A (mw cI cZ h0 mq mi2 ma2) t) A) #[(.ref h0 : Value), (.int f : Value), (.int g : Value)] s 0 0 A) := ⟨_, rfl⟩
  obtain ⟨RES, hRES⟩ : ∃ y, y = (x_kept f g mi ma) := ⟨_, rfl⟩
  have J_19 : ∀ (n_19 : Nat), ∀ (mi : Nat → Int32) (ma : Nat → Nat → Int32) (i3 : Int32) (i4 : Int32) (H : Heap) (locs : List Loc), va_P D vwCl (mw cI cZ h0 mq mi ma) H → va_D A (mw cI cZ h0 mq mi ma) → va_S A s.heap H locs → MI ph cl mi ma → (∀ k, k ∉ ([] : List Nat) → mi k = mi0 k) → (∀ k, k ∉ ([] : List Nat) → ma k = ma0 k) → RES = x_kept_19 f g n_19 mi ma i3 i4 → (0 ≤ i4.toInt ∧ 0 ≤ f.toInt ∧ f.toInt < 4) → ∀ (ls : Array Slot), lv_has ls 5 [(0, .ref h0), (1, .int f), (2, .int g), (3, .int i3), (4, .int i4)] → ((200 - i4.toInt).toNat) < n_19 → W p l e ({ frames := 1, cells := 0, slots := 0, locals := 21 }) s m #[(.ref h0 : Value), (.int f : Value), (.int g : Value)] below meth c H locs 0 0 QP (F0 m 19 ls []) := by
    intro n_19
    induction n_19 with
    | zero => intros; exact absurd ‹_ < 0› (Nat.not_lt_zero _)
    | succ n_19 ih_19 =>
      intro mi ma i3 i4 H locs hP hD hS hI hFI hFA hE hv ls hl hm
      rw [x_kept_19] at hE
      refine lv_iload hx hb dX11_kept_19 (lv_at hl 4 rfl) ?_
      refine lv_sipush (v := 200) hx hb dX11_kept_21 (by decide) ?_
      refine lv_icmp_ge (tgt := 70) hx hb dX11_kept_24 (by decide) (fun c_1 => ?_) (fun c_1 => ?_)
      · have t_c_1 := Int32.le_iff_toInt_le.mp c_1
        have hE := hE.trans (if_pos c_1)
        refine lv_iconst (v := (-1)) hx hb dX11_kept_70 (by decide) ?_
        rw [hQP]
        exact W.iret (v := (-1)) hx hb hr (fun t ht hW => ⟨⟨(-1), (), rfl, ⟨trivial, by rw [← hRES, hE]⟩, ⟨mi, ma, ⟨⟨hI, fun k hk => (hFI k hk).trans (by rw [hmi0]), fun k hk => (hFA k hk).trans (by rw [hma0])⟩, by rw [← hRES, hE], by rw [← hRES, hE]⟩, by rw [ht]; exact hP, va_K.moved hW.alike hK, hD⟩⟩, hS.F ht⟩) hS.2.2 dX11_kept_71
      · have t_c_1 := Int32.lt_iff_toInt_lt.mp (Int32.not_le.mp c_1)
        have hE := hE.trans (if_neg c_1)
        refine lv_aload_n hx hb dX11_kept_27 rfl (lv_at hl 0 rfl) ?_
        refine va_get (D := D) (ci := 11) (v := .ref (mq 36)) (C := RX11) (T := TX11) (N := 74) hx hb ha inlX11 hown hK hP 0 mw_at0 rfl 36 (by decide) (ha _ kf_X11_76) (fun _ h9 => h9) rfl dX11_kept_28 ?_
        refine lv_sipush (v := 200) hx hb dX11_kept_31 (by decide) ?_
        refine lv_iload_n hx hb dX11_kept_34 rfl (lv_at hl 1 rfl) ?_
        refine lv_imul hx hb dX11_kept_35 ?_
        refine lv_topi (fun x_2 ex_2 => ?_)
        have hE := bd_at ex_2 hE
        try have t_x_2 := ti_mulc (k := 200) ex_2 tk_200 (by omega) (by omega)
        refine lv_iload hx hb dX11_kept_36 (lv_at hl 4 rfl) ?_
        refine lv_iadd hx hb dX11_kept_38 ?_
        refine lv_topi (fun x_3 ex_3 => ?_)
        have hE := bd_at ex_3 hE
        try have t_x_3 := ti_add ex_3 (by omega) (by omega)
        have hin_4 : vp_in x_3 800 := vpi_of (by omega) (by omega)
        refine va_zald hx hb hK hP 18 2 mw_at36 rfl hin_4 dX11_kept_39 ?_
        refine lv_topi (fun x_5 ex_5 => ?_)
        have hE := bd_at ex_5 hE
        have u_x_5 := congrArg Int32.toInt ex_5
        refine lv_if_ne (tgt := 46) hx hb dX11_kept_40 (by decide) (fun c_6 => ?_) (fun c_6 => ?_)
        · have t_c_6 := mt Int32.toInt_inj.mp c_6
          have hE := hE.trans (if_neg c_6)
          refine lv_iload_n hx hb dX11_kept_46 rfl (lv_at hl 3 rfl) ?_
          refine lv_iload_n hx hb dX11_kept_47 rfl (lv_at hl 2 rfl) ?_
          refine lv_icmp_ne (tgt := 61) hx hb dX11_kept_48 (by decide) (fun c_7 => ?_) (fun c_7 => ?_)
          · have t_c_7 := mt Int32.toInt_inj.mp c_7
            have hE := hE.trans (if_neg c_7)
            obtain ⟨x_8, ex_8⟩ : ∃ y : Int32, y = i3 + 1 := ⟨_, rfl⟩
            have hE := bd_at ex_8 hE
            refine lv_iinc (v := x_8) (lv' := [(3, .int x_8), (0, .ref h0), (1, .int f), (2, .int g), (4, .int i4)]) hx hb dX11_kept_61 hl (k := 3) rfl (by rw [ex_8]; rfl) (by decide) rfl (fun ls hl => ?_)
            try have t_x_8 := ti_add ex_8 (by omega) (by omega)
            obtain ⟨x_9, ex_9⟩ : ∃ y : Int32, y = i4 + 1 := ⟨_, rfl⟩
            have hE := bd_at ex_9 hE
            refine lv_iinc (v := x_9) (lv' := [(4, .int x_9), (3, .int x_8), (0, .ref h0), (1, .int f), (2, .int g)]) hx hb dX11_kept_64 hl (k := 4) rfl (by rw [ex_9]; rfl) (by decide) rfl (fun ls hl => ?_)
            try have t_x_9 := ti_add ex_9 (by omega) (by omega)
            refine lv_goto (tgt := 19) hx hb dX11_kept_67 (by decide) ?_
            exact ih_19 mi ma x_8 x_9 _ _ hP hD hS hI hFI hFA hE ⟨by omega, by omega, by omega⟩ _ (lv_sub hl [2, 3, 4, 1, 0] rfl) (by omega)
          · have t_c_7 := congrArg Int32.toInt c_7
            have hE := hE.trans (if_pos c_7)
            refine lv_aload_n hx hb dX11_kept_51 rfl (lv_at hl 0 rfl) ?_
            refine va_get (D := D) (ci := 11) (v := .ref (mq 34)) (C := RX11) (T := TX11) (N := 74) hx hb ha inlX11 hown hK hP 0 mw_at0 rfl 34 (by decide) (ha _ kf_X11_70) (fun _ h9 => h9) rfl dX11_kept_52 ?_
            refine lv_iload_n hx hb dX11_kept_55 rfl (lv_at hl 1 rfl) ?_
            have hin_10 : vp_in f 4 := vpi_of (by omega) (by omega)
            refine va_iald hx hb hK hP 16 0 mw_at34 rfl hin_10 dX11_kept_56 ?_
            refine lv_topi (fun x_11 ex_11 => ?_)
            have hE := bd_at ex_11 hE
            have u_x_11 := congrArg Int32.toInt ex_11
            have r_x_11 := rg_ld (MI_wanted hI) hin_10 ex_11
            refine lv_iload hx hb dX11_kept_57 (lv_at hl 4 rfl) ?_
            refine lv_iadd hx hb dX11_kept_59 ?_
            refine lv_topi (fun x_12 ex_12 => ?_)
            have hE := bd_at ex_12 hE
            rw [hQP]
            exact W.iret (v := x_12) hx hb hr (fun t ht hW => ⟨⟨x_12, (), rfl, ⟨trivial, by rw [← hRES, hE]⟩, ⟨mi, ma, ⟨⟨hI, fun k hk => (hFI k hk).trans (by rw [hmi0]), fun k hk => (hFA k hk).trans (by rw [hma0])⟩, by rw [← hRES, hE], by rw [← hRES, hE]⟩, by rw [ht]; exact hP, va_K.moved hW.alike hK, hD⟩⟩, hS.F ht⟩) hS.2.2 dX11_kept_60
        · have t_c_6 := congrArg Int32.toInt c_6
          have hE := hE.trans (if_pos c_6)
          refine lv_goto (tgt := 64) hx hb dX11_kept_43 (by decide) ?_
          obtain ⟨x_13, ex_13⟩ : ∃ y : Int32, y = i4 + 1 := ⟨_, rfl⟩
          have hE := bd_at ex_13 hE
          refine lv_iinc (v := x_13) (lv' := [(4, .int x_13), (0, .ref h0), (1, .int f), (2, .int g), (3, .int i3)]) hx hb dX11_kept_64 hl (k := 4) rfl (by rw [ex_13]; rfl) (by decide) rfl (fun ls hl => ?_)
          try have t_x_13 := ti_add ex_13 (by omega) (by omega)
          refine lv_goto (tgt := 19) hx hb dX11_kept_67 (by decide) ?_
          exact ih_19 mi ma i3 x_13 _ _ hP hD hS hI hFI hFA hE ⟨by omega, by omega, by omega⟩ _ (lv_sub hl [1, 2, 3, 4, 0] rfl) (by omega)
  -- from the entry
  rw [hQP] at J_19
  have hE := hRES
  unfold x_kept at hE
  refine lv_aload_n hx hb dX11_kept_0 rfl (lv_at hl 0 rfl) ?_
  refine lv_iload_n hx hb dX11_kept_1 rfl (lv_at hl 1 rfl) ?_
  have hFc := va_freeW hD hS hA
  refine va_calli (va_runV (As := [.int f]) (rest := []) ⟨hx, hb, hml, hown, ha⟩ (m_isFlow l D cI cJ cZ cO _ h0 mq mi ma ph cl f hI.1) (cwV 1 ha (gaV kl_X11_195 km_X11_isFlow ks_X11_isFlow kz_X11 kd_X11_isFlow) rfl rfl rfl (by decide +kernel) ⟨Nat.le_of_ble_eq_true rfl, Nat.le_of_ble_eq_true rfl⟩) ⟨pw_blind, va_recv hK hP (ci := 11) (q0 := 0) rfl rfl, fun U hU hW => ⟨rfl, pw_start hU hW hP hK hD hN⟩⟩ rfl rfl hl.1 rfl (lv_room (Nat.le_of_ble_eq_true rfl)) dX11_kept_2 ⟨Nat.le_of_ble_eq_true rfl, Nat.le_of_ble_eq_true rfl⟩) hS (fun q _ h => hFc q h) hFc (fun r_14 u t H1 locs ht hvm hw hB hz1 hk1 hS => ?_)
  obtain ⟨mi_15, ma_16, ⟨hf_17, hX1, hX2⟩, hP, hK1, hD1⟩ := hB
  have hE := bc_at hX1 hX2 hw.2 hE
  rw [ht] at hP
  have hD := hD1.weaken (fun k q _ h => hFc q.1 h)
  clear hD1
  generalize H1 = H at hP hS ⊢
  refine W.widen (k := 0) (n := 0) (Nat.le_refl _) (Nat.le_refl _) ?_
  have hI : MI ph cl mi_15 ma_16 := ⟨hf_17.1, due_keep hI.2 (hf_17.2.1 4 (by decide)) (hf_17.2.1 10 (by decide)) (hf_17.2.1 11 (by decide)) (hf_17.2.1 12 (by decide)) (hf_17.2.1 17 (by decide)) (hf_17.2.1 18 (by decide)) (hf_17.2.1 19 (by decide)) (hf_17.2.2 13 (by decide)) (hf_17.2.2 20 (by decide)) (hf_17.2.2 40 (by decide)) (hf_17.2.2 41 (by decide))⟩
  have hFI : ∀ k, k ∉ ([] : List Nat) → mi_15 k = mi0 k := fun k hk => (hf_17.2.1 k (fun h => hk (by revert h; exact sub_of (by decide) k))).trans (hFI k hk)
  have hFA : ∀ k, k ∉ ([] : List Nat) → ma_16 k = ma0 k := fun k hk => (hf_17.2.2 k (fun h => hk (by revert h; exact sub_of (by decide) k))).trans (hFA k hk)
  have hr_14 := hw.1
  refine lv_if_eq (tgt := 12) hx hb dX11_kept_5 (by decide) (fun c_18 => ?_) (fun c_18 => ?_)
  · have t_c_18 := congrArg Int32.toInt c_18
    have hE := hE.trans (if_pos c_18)
    refine lv_iconst (v := (-1)) hx hb dX11_kept_12 (by decide) ?_
    exact W.iret (v := (-1)) hx hb hr (fun t ht hW => ⟨⟨(-1), (), rfl, ⟨trivial, by rw [← hRES, hE]⟩, ⟨mi_15, ma_16, ⟨⟨hI, fun k hk => (hFI k hk).trans (by rw [hmi0]), fun k hk => (hFA k hk).trans (by rw [hma0])⟩, by rw [← hRES, hE], by rw [← hRES, hE]⟩, by rw [ht]; exact hP, va_K.moved hW.alike hK, hD⟩⟩, hS.F ht⟩) hS.2.2 dX11_kept_13
  · have t_c_18 := mt Int32.toInt_inj.mp c_18
    have hE := hE.trans (if_neg c_18)
    have hif := hr_14.2 c_18
    have hff := hif.2.1
    have hf0 := hif.1
    have hf4 := hif.2.2
    have hfw : f.toInt < (mi_15 32).toInt := by rw [hf_17.2.1 32 (by decide)]; exact hff
    refine lv_iload_n hx hb dX11_kept_8 rfl (lv_at hl 2 rfl) ?_
    refine lv_if_ge (tgt := 14) hx hb dX11_kept_9 (by decide) (fun c_19 => ?_) (fun c_19 => ?_)
    · have t_c_19 := Int32.le_iff_toInt_le.mp c_19
      have hE := hE.trans (if_pos c_19)
      refine lv_iconst (v := 0) hx hb dX11_kept_14 (by decide) ?_
      refine lv_istore_n (lv' := [(3, .int 0), (0, .ref h0), (1, .int f), (2, .int g)]) hx hb dX11_kept_15 rfl hl (by decide) rfl (fun ls hl => ?_)
      refine lv_iconst (v := 0) hx hb dX11_kept_16 (by decide) ?_
      refine lv_istore (lv' := [(4, .int 0), (3, .int 0), (0, .ref h0), (1, .int f), (2, .int g)]) hx hb dX11_kept_17 hl (by decide) rfl (fun ls hl => ?_)
      exact J_19 201 mi_15 ma_16 (0 : Int32) (0 : Int32) _ _ hP hD hS hI hFI hFA hE ⟨by omega, by omega, by omega⟩ _ (lv_sub hl [2, 3, 4, 1, 0] rfl) (by omega)
    · have t_c_19 := Int32.lt_iff_toInt_lt.mp (Int32.not_le.mp c_19)
      have hE := hE.trans (if_neg c_19)
      refine lv_iconst (v := (-1)) hx hb dX11_kept_12 (by decide) ?_
      exact W.iret (v := (-1)) hx hb hr (fun t ht hW => ⟨⟨(-1), (), rfl, ⟨trivial, by rw [← hRES, hE]⟩, ⟨mi_15, ma_16, ⟨⟨hI, fun k hk => (hFI k hk).trans (by rw [hmi0]), fun k hk => (hFA k hk).trans (by rw [hma0])⟩, by rw [← hRES, hE], by rw [← hRES, hE]⟩, by rw [ht]; exact hP, va_K.moved hW.alike hK, hD⟩⟩, hS.F ht⟩) hS.2.2 dX11_kept_13

set_option maxRecDepth 100000 in
def x_lose_12 (n1 : Int32) : Nat → (Nat → Int32) → (Nat → Nat → Int32) → Int32 → XT
  | 0, mi, ma, _ => (mi, ma, 0)
  | fu + 1, mi, ma, i2 => bd (mi 30) (fun v1 => (if v1 ≤ i2 then bd (mi 30) (fun v2 => (if v2 = (64 : Int32) then (mi, ma, (0 : Int32)) else bd (mi 30) (fun v3 => bd (va_up ma 31 (upd (ma 31) v3.toNatClampNeg n1)) (fun a4 => bd (mi 30) (fun v5 => bd (v5 + (1 : Int32)) (fun v6 => bd (upd mi 30 v6) (fun m7 => (m7, a4, (1 : Int32))))))))) else bd (ma 31 i2.toNatClampNeg) (fun v8 => (if v8 = n1 then (mi, ma, (1 : Int32)) else bd (i2 + 1) (fun v9 => x_lose_12 n1 fu mi ma v9)))))
set_option maxRecDepth 100000 in
def x_lose (n1 : Int32) (mi : Nat → Int32) (ma : Nat → Nat → Int32) : XT := bd (mi 26) (fun v10 => (if v10 ≤ n1 then x_lose_12 n1 65 mi ma (0 : Int32) else (mi, ma, (0 : Int32))))
set_option maxHeartbeats 4000000 in
set_option maxRecDepth 100000 in
theorem m_lose (l : Launch) (D : va_G) (cI cJ cZ cO : ClassId) (sz : Nat) (h0 : Nat) (mq : Nat → Nat) (mi : Nat → Int32) (ma : Nat → Nat → Int32) (ph : Nat) (cl : Int) (n1 : Int32) (hI : MI ph cl mi ma) : Met l yX11_lose (wa yX11_lose cX11_lose 3 (some .boolean)) ({ frames := 0, cells := 0, slots := 0, locals := 0 }) (va_Pc [.ref h0, .int n1] (pw_s D cI cJ cZ cO sz (mw cI cZ h0 mq mi ma))) (va_Qi (fun (r : Int32) (_ : Unit) => ((True) ∧ r = (x_lose n1 mi ma).2.2)) (fun (_ : Unit) (t : State) => ∃ (mi2 : Nat → Int32) (ma2 : Nat → Nat → Int32), ((MI ph cl mi2 ma2 ∧ (∀ k, k ∉ ([30] : List Nat) → mi2 k = mi k) ∧ (∀ k, k ∉ ([31] : List Nat) → ma2 k = ma k)) ∧ mi2 = (x_lose n1 mi ma).1 ∧ ma2 = (x_lose n1 mi ma).2.1) ∧ pw_t D cI cJ cZ cO (va_A (mw cI cZ h0 mq mi ma) sz) (mw cI cZ h0 mq mi2 ma2) t) (va_A (mw cI cZ h0 mq mi ma) sz)) 0 0 (va_A (mw cI cZ h0 mq mi ma) sz) := by
  refine Met.ofW (cc := cX11_lose) (maxL := 3) (ret := (some .boolean)) (by decide) rfl ?_
  intro p e s m args below meth c s₁ B hml hv
  obtain ⟨rfl, hsz, hP, hK, hD0, hN⟩ := hv
  have hx := B.exec
  have hb := B.bytes
  have hr := B.returns
  have hts := atoms_spec (ws := (wa yX11_lose cX11_lose 3 (some .boolean))) B.pre
  have ha : ∀ w ∈ wsL_law, w.before _ s = true := fun w h => hts w (List.mem_cons_of_mem _ h)
  have hown : s.vm.findClass RX11 = some m.cls := findClass_of_methodNamed B.named
  have hlocks := B.notSynchronized
  subst hsz
  have hD := hD0.self (sz := s.heap.size)
  generalize hAe : va_A (mw cI cZ h0 mq mi ma) s.heap.size = A at hD ⊢
  have hA : ∀ q : Nat, s.heap.size ≤ q → A q := fun q h => by rw [← hAe]; exact Or.inr h
  have hS : va_S A s.heap s.heap [] := va_S.rf
  have hP : va_P D vwCl (mw cI cZ h0 mq mi ma) s.heap := hP
  have hl := lv_entry ([.ref h0, .int n1]) (n := 3) (Nat.le_of_ble_eq_true rfl)
  rw [lg_entry_eq]
  generalize (lg_sl ([.ref h0, .int n1]) ++ List.replicate (3 - (lg_sl ([.ref h0, .int n1])).length) Slot.unset).toArray = ls at hl ⊢
  have hl : lv_has ls 3 [(0, .ref h0), (1, .int n1)] := hl
  have kc_m1 := tk_m1
  have kc_0 := tk_0
  have kc_1 := tk_1
  have kc_64 := tk_64
  obtain ⟨mi0, hmi0⟩ : ∃ y, y = mi := ⟨_, rfl⟩
  obtain ⟨ma0, hma0⟩ : ∃ y, y = ma := ⟨_, rfl⟩
  have hFI : ∀ k, k ∉ ([30] : List Nat) → mi k = mi0 k := fun k _ => by rw [hmi0]
  have hFA : ∀ k, k ∉ ([31] : List Nat) → ma k = ma0 k := fun k _ => by rw [hma0]
  obtain ⟨QP, hQP⟩ : ∃ y : State → Prop, y = (MQ below (va_Qi (fun (r : Int32) (_ : Unit) => ((True) ∧ r = (x_lose n1 mi ma).2.2)) (fun (_ : Unit) (t : State) => ∃ (mi2 : Nat → Int32) (ma2 : Nat → Nat → Int32), ((MI ph cl mi2 ma2 ∧ (∀ k, k ∉ ([30] : List Nat) → mi2 k = mi k) ∧ (∀ k, k ∉ ([31] : List Nat) → ma2 k = ma k)) ∧ mi2 = (x_lose n1 mi ma).1 ∧ ma2 = (x_lose n1 mi ma).2.1) ∧ pw_t D cI cJ cZ cO A (mw cI cZ h0 mq mi2 ma2) t) A) #[(.ref h0 : Value), (.int n1 : Value)] s 0 0 A) := ⟨_, rfl⟩
  obtain ⟨RES, hRES⟩ : ∃ y, y = (x_lose n1 mi ma) := ⟨_, rfl⟩
  have J_12 : ∀ (n_12 : Nat), ∀ (mi : Nat → Int32) (ma : Nat → Nat → Int32) (i2 : Int32) (H : Heap) (locs : List Loc), va_P D vwCl (mw cI cZ h0 mq mi ma) H → va_D A (mw cI cZ h0 mq mi ma) → va_S A s.heap H locs → MI ph cl mi ma → (∀ k, k ∉ ([30] : List Nat) → mi k = mi0 k) → (∀ k, k ∉ ([31] : List Nat) → ma k = ma0 k) → RES = x_lose_12 n1 n_12 mi ma i2 → 0 ≤ i2.toInt → ∀ (ls : Array Slot), lv_has ls 3 [(0, .ref h0), (1, .int n1), (2, .int i2)] → ((64 - i2.toInt).toNat) < n_12 → W p l e ({ frames := 0, cells := 0, slots := 0, locals := 0 }) s m #[(.ref h0 : Value), (.int n1 : Value)] below meth c H locs 0 0 QP (F0 m 12 ls []) := by
    intro n_12
    induction n_12 with
    | zero => intros; exact absurd ‹_ < 0› (Nat.not_lt_zero _)
    | succ n_12 ih_12 =>
      intro mi ma i2 H locs hP hD hS hI hFI hFA hE hv ls hl hm
      rw [x_lose_12] at hE
      refine lv_iload_n hx hb dX11_lose_12 rfl (lv_at hl 2 rfl) ?_
      refine lv_aload_n hx hb dX11_lose_13 rfl (lv_at hl 0 rfl) ?_
      refine va_get (D := D) (ci := 11) (v := .int (mi 30)) (C := RX11) (T := TX11) (N := 74) hx hb ha inlX11 hown hK hP 0 mw_at0 rfl 30 (by decide) (ha _ kf_X11_204) (fun _ h9 => h9) rfl dX11_lose_14 ?_
      refine lv_topi (fun x_1 ex_1 => ?_)
      have hE := bd_at ex_1 hE
      have u_x_1 := congrArg Int32.toInt ex_1
      have r_x_1 := MI_told hI
      rw [← ex_1] at r_x_1
      refine lv_icmp_ge (tgt := 38) hx hb dX11_lose_17 (by decide) (fun c_2 => ?_) (fun c_2 => ?_)
      · have t_c_2 := Int32.le_iff_toInt_le.mp c_2
        have hE := hE.trans (if_pos c_2)
        refine lv_aload_n hx hb dX11_lose_38 rfl (lv_at hl 0 rfl) ?_
        refine va_get (D := D) (ci := 11) (v := .int (mi 30)) (C := RX11) (T := TX11) (N := 74) hx hb ha inlX11 hown hK hP 0 mw_at0 rfl 30 (by decide) (ha _ kf_X11_204) (fun _ h9 => h9) rfl dX11_lose_39 ?_
        refine lv_topi (fun x_3 ex_3 => ?_)
        have hE := bd_at ex_3 hE
        have u_x_3 := congrArg Int32.toInt ex_3
        have r_x_3 := MI_told hI
        rw [← ex_3] at r_x_3
        refine lv_bipush (v := 64) hx hb dX11_lose_42 (by decide) ?_
        refine lv_icmp_ne (tgt := 49) hx hb dX11_lose_44 (by decide) (fun c_4 => ?_) (fun c_4 => ?_)
        · have t_c_4 := mt Int32.toInt_inj.mp c_4
          have hE := hE.trans (if_neg c_4)
          refine lv_aload_n hx hb dX11_lose_49 rfl (lv_at hl 0 rfl) ?_
          refine va_get (D := D) (ci := 11) (v := .ref (mq 31)) (C := RX11) (T := TX11) (N := 74) hx hb ha inlX11 hown hK hP 0 mw_at0 rfl 31 (by decide) (ha _ kf_X11_64) (fun _ h9 => h9) rfl dX11_lose_50 ?_
          refine lv_aload_n hx hb dX11_lose_53 rfl (lv_at hl 0 rfl) ?_
          refine va_get (D := D) (ci := 11) (v := .int (mi 30)) (C := RX11) (T := TX11) (N := 74) hx hb ha inlX11 hown hK hP 0 mw_at0 rfl 30 (by decide) (ha _ kf_X11_204) (fun _ h9 => h9) rfl dX11_lose_54 ?_
          refine lv_topi (fun x_5 ex_5 => ?_)
          have hE := bd_at ex_5 hE
          have u_x_5 := congrArg Int32.toInt ex_5
          have r_x_5 := MI_told hI
          rw [← ex_5] at r_x_5
          refine lv_iload_n hx hb dX11_lose_57 rfl (lv_at hl 1 rfl) ?_
          have hin_6 : vp_in x_5 64 := vpi_of (by omega) (by omega)
          refine va_iast hx hb hK hP hD hS 14 0 mw_at31 rfl hin_6 dX11_lose_58 (fun H locs hP hD hS => ?_)
          have hP : va_P D vwCl (mw cI cZ h0 mq mi (va_up ma 31 (upd (ma 31) x_5.toNatClampNeg n1))) H := mwP_31 hP
          have hD : va_D A (mw cI cZ h0 mq mi (va_up ma 31 (upd (ma 31) x_5.toNatClampNeg n1))) := mwD_31 hD
          generalize hma_7 : va_up ma 31 (upd (ma 31) x_5.toNatClampNeg n1) = ma_7 at hP hD
          have hI : MI ph cl mi ma_7 := by rw [← hma_7]; exact MIa_lost hI
          have hFA : ∀ k, k ∉ ([31] : List Nat) → ma_7 k = ma0 k := fun k hk => by rw [← hma_7]; exact (va_up_ne _ _ (fun e => hk (by rw [e]; decide))).trans (hFA k hk)
          have hE := bs_at hma_7 hE
          refine lv_aload_n hx hb dX11_lose_59 rfl (lv_at hl 0 rfl) ?_
          refine lv_dup hx hb dX11_lose_60 rfl ?_
          refine va_get (D := D) (ci := 11) (v := .int (mi 30)) (C := RX11) (T := TX11) (N := 74) hx hb ha inlX11 hown hK hP 0 mw_at0 rfl 30 (by decide) (ha _ kf_X11_204) (fun _ h9 => h9) rfl dX11_lose_61 ?_
          refine lv_topi (fun x_8 ex_8 => ?_)
          have hE := bd_at ex_8 hE
          have u_x_8 := congrArg Int32.toInt ex_8
          have r_x_8 := MI_told hI
          rw [← ex_8] at r_x_8
          refine lv_iconst (v := 1) hx hb dX11_lose_64 (by decide) ?_
          refine lv_iadd hx hb dX11_lose_65 ?_
          refine lv_topi (fun x_9 ex_9 => ?_)
          have hE := bd_at ex_9 hE
          try have t_x_9 := ti_add ex_9 (by omega) (by omega)
          refine va_put (D := D) (ci := 11) (v := .int x_9) (ty := .int) (C := RX11) (T := TX11) (N := 74) hx hb ha inlX11 tyX11 tyX11_ok nmX11 hown hK hP hD hS 0 mw_at0 rfl 30 (by decide) (ha _ kf_X11_204) (fun _ h9 => h9) rfl (by decide +kernel) rfl rfl (Nat.le_of_ble_eq_true rfl) dX11_lose_66 (fun H locs hP hD hS => ?_)
          have hP : va_P D vwCl (mw cI cZ h0 mq (upd mi 30 x_9) ma_7) H := mwP_30 hP
          have hD : va_D A (mw cI cZ h0 mq (upd mi 30 x_9) ma_7) := mwD_30 hD
          generalize hmi_10 : upd mi 30 x_9 = mi_10 at hP hD
          have hI : MI ph cl mi_10 ma_7 := by rw [← hmi_10]; exact MIi_told hI (by omega) (by omega)
          have hFI : ∀ k, k ∉ ([30] : List Nat) → mi_10 k = mi0 k := fun k hk => by rw [← hmi_10]; exact (if_neg (fun e => hk (by rw [e]; decide))).trans (hFI k hk)
          have hE := bs_at hmi_10 hE
          refine lv_iconst (v := 1) hx hb dX11_lose_69 (by decide) ?_
          rw [hQP]
          exact W.zret (v := 1) hx hb hr rfl (fun t ht hW => ⟨⟨1, (), rfl, ⟨trivial, by rw [← hRES, hE]⟩, ⟨mi_10, ma_7, ⟨⟨hI, fun k hk => (hFI k hk).trans (by rw [hmi0]), fun k hk => (hFA k hk).trans (by rw [hma0])⟩, by rw [← hRES, hE], by rw [← hRES, hE]⟩, by rw [ht]; exact hP, va_K.moved hW.alike hK, hD⟩⟩, hS.F ht⟩) hS.2.2 dX11_lose_70
        · have t_c_4 := congrArg Int32.toInt c_4
          have hE := hE.trans (if_pos c_4)
          refine lv_iconst (v := 0) hx hb dX11_lose_47 (by decide) ?_
          rw [hQP]
          exact W.zret (v := 0) hx hb hr rfl (fun t ht hW => ⟨⟨0, (), rfl, ⟨trivial, by rw [← hRES, hE]⟩, ⟨mi, ma, ⟨⟨hI, fun k hk => (hFI k hk).trans (by rw [hmi0]), fun k hk => (hFA k hk).trans (by rw [hma0])⟩, by rw [← hRES, hE], by rw [← hRES, hE]⟩, by rw [ht]; exact hP, va_K.moved hW.alike hK, hD⟩⟩, hS.F ht⟩) hS.2.2 dX11_lose_48
      · have t_c_2 := Int32.lt_iff_toInt_lt.mp (Int32.not_le.mp c_2)
        have hE := hE.trans (if_neg c_2)
        refine lv_aload_n hx hb dX11_lose_20 rfl (lv_at hl 0 rfl) ?_
        refine va_get (D := D) (ci := 11) (v := .ref (mq 31)) (C := RX11) (T := TX11) (N := 74) hx hb ha inlX11 hown hK hP 0 mw_at0 rfl 31 (by decide) (ha _ kf_X11_64) (fun _ h9 => h9) rfl dX11_lose_21 ?_
        refine lv_iload_n hx hb dX11_lose_24 rfl (lv_at hl 2 rfl) ?_
        have hin_11 : vp_in i2 64 := vpi_of (by omega) (by omega)
        refine va_iald hx hb hK hP 14 0 mw_at31 rfl hin_11 dX11_lose_25 ?_
        refine lv_topi (fun x_12 ex_12 => ?_)
        have hE := bd_at ex_12 hE
        have u_x_12 := congrArg Int32.toInt ex_12
        refine lv_iload_n hx hb dX11_lose_26 rfl (lv_at hl 1 rfl) ?_
        refine lv_icmp_ne (tgt := 32) hx hb dX11_lose_27 (by decide) (fun c_13 => ?_) (fun c_13 => ?_)
        · have t_c_13 := mt Int32.toInt_inj.mp c_13
          have hE := hE.trans (if_neg c_13)
          obtain ⟨x_14, ex_14⟩ : ∃ y : Int32, y = i2 + 1 := ⟨_, rfl⟩
          have hE := bd_at ex_14 hE
          refine lv_iinc (v := x_14) (lv' := [(2, .int x_14), (0, .ref h0), (1, .int n1)]) hx hb dX11_lose_32 hl (k := 2) rfl (by rw [ex_14]; rfl) (by decide) rfl (fun ls hl => ?_)
          try have t_x_14 := ti_add ex_14 (by omega) (by omega)
          refine lv_goto (tgt := 12) hx hb dX11_lose_35 (by decide) ?_
          exact ih_12 mi ma x_14 _ _ hP hD hS hI hFI hFA hE (by omega) _ (lv_sub hl [1, 2, 0] rfl) (by omega)
        · have t_c_13 := congrArg Int32.toInt c_13
          have hE := hE.trans (if_pos c_13)
          refine lv_iconst (v := 1) hx hb dX11_lose_30 (by decide) ?_
          rw [hQP]
          exact W.zret (v := 1) hx hb hr rfl (fun t ht hW => ⟨⟨1, (), rfl, ⟨trivial, by rw [← hRES, hE]⟩, ⟨mi, ma, ⟨⟨hI, fun k hk => (hFI k hk).trans (by rw [hmi0]), fun k hk => (hFA k hk).trans (by rw [hma0])⟩, by rw [← hRES, hE], by rw [← hRES, hE]⟩, by rw [ht]; exact hP, va_K.moved hW.alike hK, hD⟩⟩, hS.F ht⟩) hS.2.2 dX11_lose_31
  -- from the entry
  rw [hQP] at J_12
  have hE := hRES
  unfold x_lose at hE
  refine lv_iload_n hx hb dX11_lose_0 rfl (lv_at hl 1 rfl) ?_
  refine lv_aload_n hx hb dX11_lose_1 rfl (lv_at hl 0 rfl) ?_
  refine va_get (D := D) (ci := 11) (v := .int (mi 26)) (C := RX11) (T := TX11) (N := 74) hx hb ha inlX11 hown hK hP 0 mw_at0 rfl 26 (by decide) (ha _ kf_X11_201) (fun _ h9 => h9) rfl dX11_lose_2 ?_
  refine lv_topi (fun x_15 ex_15 => ?_)
  have hE := bd_at ex_15 hE
  have u_x_15 := congrArg Int32.toInt ex_15
  refine lv_icmp_ge (tgt := 10) hx hb dX11_lose_5 (by decide) (fun c_16 => ?_) (fun c_16 => ?_)
  · have t_c_16 := Int32.le_iff_toInt_le.mp c_16
    have hE := hE.trans (if_pos c_16)
    refine lv_iconst (v := 0) hx hb dX11_lose_10 (by decide) ?_
    refine lv_istore_n (lv' := [(2, .int 0), (0, .ref h0), (1, .int n1)]) hx hb dX11_lose_11 rfl hl (by decide) rfl (fun ls hl => ?_)
    exact J_12 65 mi ma (0 : Int32) _ _ hP hD hS hI hFI hFA hE (by omega) _ (lv_sub hl [1, 2, 0] rfl) (by omega)
  · have t_c_16 := Int32.lt_iff_toInt_lt.mp (Int32.not_le.mp c_16)
    have hE := hE.trans (if_neg c_16)
    refine lv_iconst (v := 0) hx hb dX11_lose_8 (by decide) ?_
    exact W.zret (v := 0) hx hb hr rfl (fun t ht hW => ⟨⟨0, (), rfl, ⟨trivial, by rw [← hRES, hE]⟩, ⟨mi, ma, ⟨⟨hI, fun k hk => (hFI k hk).trans (by rw [hmi0]), fun k hk => (hFA k hk).trans (by rw [hma0])⟩, by rw [← hRES, hE], by rw [← hRES, hE]⟩, by rw [ht]; exact hP, va_K.moved hW.alike hK, hD⟩⟩, hS.F ht⟩) hS.2.2 dX11_lose_9

set_option maxRecDepth 100000 in
def x_count (n1 : Int32) (mi : Nat → Int32) (ma : Nat → Nat → Int32) : XT := (if n1 = 0 then bd (mi 4) (fun v16 => (mi, ma, v16)) else (if n1 = 1 then bd (mi 32) (fun v15 => (mi, ma, v15)) else (if n1 = 2 then bd (mi 26) (fun v14 => (mi, ma, v14)) else (if n1 = 3 then bd (mi 6) (fun v11 => (if v11 ≤ (0 : Int32) then (mi, ma, (0 : Int32)) else bd (mi 6) (fun v12 => bd (v12 - (1 : Int32)) (fun v13 => (mi, ma, v13))))) else (if n1 = 4 then bd (mi 27) (fun v10 => (mi, ma, v10)) else (if n1 = 5 then bd (mi 28) (fun v9 => (mi, ma, v9)) else (if n1 = 6 then bd (mi 11) (fun v6 => bd (mi 10) (fun v7 => bd (v6 - v7) (fun v8 => (mi, ma, v8)))) else (if n1 = 7 then bd (mi 18) (fun v3 => bd (mi 17) (fun v4 => bd (v3 - v4) (fun v5 => (mi, ma, v5)))) else (if n1 = 8 then bd (mi 6) (fun v2 => (if v2 ≤ (0 : Int32) then (mi, ma, (0 : Int32)) else (mi, ma, (1 : Int32)))) else (if n1 = 9 then bd (mi 29) (fun v1 => (mi, ma, v1)) else (mi, ma, ((-1) : Int32))))))))))))
set_option maxHeartbeats 4000000 in
set_option maxRecDepth 100000 in
theorem m_count (l : Launch) (D : va_G) (cI cJ cZ cO : ClassId) (sz : Nat) (h0 : Nat) (mq : Nat → Nat) (mi : Nat → Int32) (ma : Nat → Nat → Int32) (ph : Nat) (cl : Int) (n1 : Int32) (hI : MI ph cl mi ma) : Met l yX11_count (wa yX11_count cX11_count 2 (some .int)) ({ frames := 0, cells := 0, slots := 0, locals := 0 }) (va_Pc [.ref h0, .int n1] (pw_s D cI cJ cZ cO sz (mw cI cZ h0 mq mi ma))) (va_Qi (fun (r : Int32) (_ : Unit) => ((True) ∧ r = (x_count n1 mi ma).2.2)) (fun (_ : Unit) (t : State) => ∃ (mi2 : Nat → Int32) (ma2 : Nat → Nat → Int32), ((MI ph cl mi2 ma2 ∧ (∀ k, k ∉ ([] : List Nat) → mi2 k = mi k) ∧ (∀ k, k ∉ ([] : List Nat) → ma2 k = ma k)) ∧ mi2 = (x_count n1 mi ma).1 ∧ ma2 = (x_count n1 mi ma).2.1) ∧ pw_t D cI cJ cZ cO (va_A (mw cI cZ h0 mq mi ma) sz) (mw cI cZ h0 mq mi2 ma2) t) (va_A (mw cI cZ h0 mq mi ma) sz)) 0 0 (va_A (mw cI cZ h0 mq mi ma) sz) := by
  refine Met.ofW (cc := cX11_count) (maxL := 2) (ret := (some .int)) (by decide) rfl ?_
  intro p e s m args below meth c s₁ B hml hv
  obtain ⟨rfl, hsz, hP, hK, hD0, hN⟩ := hv
  have hx := B.exec
  have hb := B.bytes
  have hr := B.returns
  have hts := atoms_spec (ws := (wa yX11_count cX11_count 2 (some .int))) B.pre
  have ha : ∀ w ∈ wsL_law, w.before _ s = true := fun w h => hts w (List.mem_cons_of_mem _ h)
  have hown : s.vm.findClass RX11 = some m.cls := findClass_of_methodNamed B.named
  have hlocks := B.notSynchronized
  subst hsz
  have hD := hD0.self (sz := s.heap.size)
  generalize hAe : va_A (mw cI cZ h0 mq mi ma) s.heap.size = A at hD ⊢
  have hA : ∀ q : Nat, s.heap.size ≤ q → A q := fun q h => by rw [← hAe]; exact Or.inr h
  have hS : va_S A s.heap s.heap [] := va_S.rf
  have hP : va_P D vwCl (mw cI cZ h0 mq mi ma) s.heap := hP
  have hl := lv_entry ([.ref h0, .int n1]) (n := 2) (Nat.le_of_ble_eq_true rfl)
  rw [lg_entry_eq]
  generalize (lg_sl ([.ref h0, .int n1]) ++ List.replicate (2 - (lg_sl ([.ref h0, .int n1])).length) Slot.unset).toArray = ls at hl ⊢
  have hl : lv_has ls 2 [(0, .ref h0), (1, .int n1)] := hl
  have kc_m1 := tk_m1
  have kc_0 := tk_0
  have kc_1 := tk_1
  obtain ⟨mi0, hmi0⟩ : ∃ y, y = mi := ⟨_, rfl⟩
  obtain ⟨ma0, hma0⟩ : ∃ y, y = ma := ⟨_, rfl⟩
  have hFI : ∀ k, k ∉ ([] : List Nat) → mi k = mi0 k := fun k _ => by rw [hmi0]
  have hFA : ∀ k, k ∉ ([] : List Nat) → ma k = ma0 k := fun k _ => by rw [hma0]
  obtain ⟨QP, hQP⟩ : ∃ y : State → Prop, y = (MQ below (va_Qi (fun (r : Int32) (_ : Unit) => ((True) ∧ r = (x_count n1 mi ma).2.2)) (fun (_ : Unit) (t : State) => ∃ (mi2 : Nat → Int32) (ma2 : Nat → Nat → Int32), ((MI ph cl mi2 ma2 ∧ (∀ k, k ∉ ([] : List Nat) → mi2 k = mi k) ∧ (∀ k, k ∉ ([] : List Nat) → ma2 k = ma k)) ∧ mi2 = (x_count n1 mi ma).1 ∧ ma2 = (x_count n1 mi ma).2.1) ∧ pw_t D cI cJ cZ cO A (mw cI cZ h0 mq mi2 ma2) t) A) #[(.ref h0 : Value), (.int n1 : Value)] s 0 0 A) := ⟨_, rfl⟩
  obtain ⟨RES, hRES⟩ : ∃ y, y = (x_count n1 mi ma) := ⟨_, rfl⟩
  -- from the entry
  have hE := hRES
  unfold x_count at hE
  refine lv_iload_n hx hb dX11_count_0 rfl (lv_at hl 1 rfl) ?_
  by_cases t_1_0 : n1 = 0
  · have hE := hE.trans (if_pos t_1_0)
    refine lv_tableIn (tgt := 56) (off := 55) hx hb dX11_count_1 (by rw [t_1_0]; decide) (by rw [t_1_0]; decide) (by rw [t_1_0]; rfl) (by decide) ?_
    refine lv_aload_n hx hb dX11_count_56 rfl (lv_at hl 0 rfl) ?_
    refine va_get (D := D) (ci := 11) (v := .int (mi 4)) (C := RX11) (T := TX11) (N := 74) hx hb ha inlX11 hown hK hP 0 mw_at0 rfl 4 (by decide) (ha _ kf_X11_207) (fun _ h9 => h9) rfl dX11_count_57 ?_
    refine lv_topi (fun x_2 ex_2 => ?_)
    have hE := bd_at ex_2 hE
    have u_x_2 := congrArg Int32.toInt ex_2
    have r_x_2 := MI_tick hI
    rw [← ex_2] at r_x_2
    exact W.iret (v := x_2) hx hb hr (fun t ht hW => ⟨⟨x_2, (), rfl, ⟨trivial, by rw [← hRES, hE]⟩, ⟨mi, ma, ⟨⟨hI, fun k hk => (hFI k hk).trans (by rw [hmi0]), fun k hk => (hFA k hk).trans (by rw [hma0])⟩, by rw [← hRES, hE], by rw [← hRES, hE]⟩, by rw [ht]; exact hP, va_K.moved hW.alike hK, hD⟩⟩, hS.F ht⟩) hS.2.2 dX11_count_60
  have hE := hE.trans (if_neg t_1_0)
  by_cases t_1_1 : n1 = 1
  · have hE := hE.trans (if_pos t_1_1)
    refine lv_tableIn (tgt := 61) (off := 60) hx hb dX11_count_1 (by rw [t_1_1]; decide) (by rw [t_1_1]; decide) (by rw [t_1_1]; rfl) (by decide) ?_
    refine lv_aload_n hx hb dX11_count_61 rfl (lv_at hl 0 rfl) ?_
    refine va_get (D := D) (ci := 11) (v := .int (mi 32)) (C := RX11) (T := TX11) (N := 74) hx hb ha inlX11 hown hK hP 0 mw_at0 rfl 32 (by decide) (ha _ kf_X11_191) (fun _ h9 => h9) rfl dX11_count_62 ?_
    refine lv_topi (fun x_3 ex_3 => ?_)
    have hE := bd_at ex_3 hE
    have u_x_3 := congrArg Int32.toInt ex_3
    have r_x_3 := MI_flows hI
    rw [← ex_3] at r_x_3
    exact W.iret (v := x_3) hx hb hr (fun t ht hW => ⟨⟨x_3, (), rfl, ⟨trivial, by rw [← hRES, hE]⟩, ⟨mi, ma, ⟨⟨hI, fun k hk => (hFI k hk).trans (by rw [hmi0]), fun k hk => (hFA k hk).trans (by rw [hma0])⟩, by rw [← hRES, hE], by rw [← hRES, hE]⟩, by rw [ht]; exact hP, va_K.moved hW.alike hK, hD⟩⟩, hS.F ht⟩) hS.2.2 dX11_count_65
  have hE := hE.trans (if_neg t_1_1)
  by_cases t_1_2 : n1 = 2
  · have hE := hE.trans (if_pos t_1_2)
    refine lv_tableIn (tgt := 66) (off := 65) hx hb dX11_count_1 (by rw [t_1_2]; decide) (by rw [t_1_2]; decide) (by rw [t_1_2]; rfl) (by decide) ?_
    refine lv_aload_n hx hb dX11_count_66 rfl (lv_at hl 0 rfl) ?_
    refine va_get (D := D) (ci := 11) (v := .int (mi 26)) (C := RX11) (T := TX11) (N := 74) hx hb ha inlX11 hown hK hP 0 mw_at0 rfl 26 (by decide) (ha _ kf_X11_201) (fun _ h9 => h9) rfl dX11_count_67 ?_
    refine lv_topi (fun x_4 ex_4 => ?_)
    have hE := bd_at ex_4 hE
    have u_x_4 := congrArg Int32.toInt ex_4
    exact W.iret (v := x_4) hx hb hr (fun t ht hW => ⟨⟨x_4, (), rfl, ⟨trivial, by rw [← hRES, hE]⟩, ⟨mi, ma, ⟨⟨hI, fun k hk => (hFI k hk).trans (by rw [hmi0]), fun k hk => (hFA k hk).trans (by rw [hma0])⟩, by rw [← hRES, hE], by rw [← hRES, hE]⟩, by rw [ht]; exact hP, va_K.moved hW.alike hK, hD⟩⟩, hS.F ht⟩) hS.2.2 dX11_count_70
  have hE := hE.trans (if_neg t_1_2)
  by_cases t_1_3 : n1 = 3
  · have hE := hE.trans (if_pos t_1_3)
    refine lv_tableIn (tgt := 71) (off := 70) hx hb dX11_count_1 (by rw [t_1_3]; decide) (by rw [t_1_3]; decide) (by rw [t_1_3]; rfl) (by decide) ?_
    refine lv_aload_n hx hb dX11_count_71 rfl (lv_at hl 0 rfl) ?_
    refine va_get (D := D) (ci := 11) (v := .int (mi 6)) (C := RX11) (T := TX11) (N := 74) hx hb ha inlX11 hown hK hP 0 mw_at0 rfl 6 (by decide) (ha _ kf_X11_230) (fun _ h9 => h9) rfl dX11_count_72 ?_
    refine lv_topi (fun x_5 ex_5 => ?_)
    have hE := bd_at ex_5 hE
    have u_x_5 := congrArg Int32.toInt ex_5
    have r_x_5 := MI_linked hI
    rw [← ex_5] at r_x_5
    refine lv_if_le (tgt := 87) hx hb dX11_count_75 (by decide) (fun c_6 => ?_) (fun c_6 => ?_)
    · have t_c_6 := Int32.le_iff_toInt_le.mp c_6
      have hE := hE.trans (if_pos c_6)
      refine lv_iconst (v := 0) hx hb dX11_count_87 (by decide) ?_
      exact W.iret (v := 0) hx hb hr (fun t ht hW => ⟨⟨0, (), rfl, ⟨trivial, by rw [← hRES, hE]⟩, ⟨mi, ma, ⟨⟨hI, fun k hk => (hFI k hk).trans (by rw [hmi0]), fun k hk => (hFA k hk).trans (by rw [hma0])⟩, by rw [← hRES, hE], by rw [← hRES, hE]⟩, by rw [ht]; exact hP, va_K.moved hW.alike hK, hD⟩⟩, hS.F ht⟩) hS.2.2 dX11_count_88
    · have t_c_6 := Int32.lt_iff_toInt_lt.mp (Int32.not_le.mp c_6)
      have hE := hE.trans (if_neg c_6)
      refine lv_aload_n hx hb dX11_count_78 rfl (lv_at hl 0 rfl) ?_
      refine va_get (D := D) (ci := 11) (v := .int (mi 6)) (C := RX11) (T := TX11) (N := 74) hx hb ha inlX11 hown hK hP 0 mw_at0 rfl 6 (by decide) (ha _ kf_X11_230) (fun _ h9 => h9) rfl dX11_count_79 ?_
      refine lv_topi (fun x_7 ex_7 => ?_)
      have hE := bd_at ex_7 hE
      have u_x_7 := congrArg Int32.toInt ex_7
      have r_x_7 := MI_linked hI
      rw [← ex_7] at r_x_7
      refine lv_iconst (v := 1) hx hb dX11_count_82 (by decide) ?_
      refine lv_isub hx hb dX11_count_83 ?_
      refine lv_topi (fun x_8 ex_8 => ?_)
      have hE := bd_at ex_8 hE
      refine lv_goto (tgt := 88) hx hb dX11_count_84 (by decide) ?_
      exact W.iret (v := x_8) hx hb hr (fun t ht hW => ⟨⟨x_8, (), rfl, ⟨trivial, by rw [← hRES, hE]⟩, ⟨mi, ma, ⟨⟨hI, fun k hk => (hFI k hk).trans (by rw [hmi0]), fun k hk => (hFA k hk).trans (by rw [hma0])⟩, by rw [← hRES, hE], by rw [← hRES, hE]⟩, by rw [ht]; exact hP, va_K.moved hW.alike hK, hD⟩⟩, hS.F ht⟩) hS.2.2 dX11_count_88
  have hE := hE.trans (if_neg t_1_3)
  by_cases t_1_4 : n1 = 4
  · have hE := hE.trans (if_pos t_1_4)
    refine lv_tableIn (tgt := 89) (off := 88) hx hb dX11_count_1 (by rw [t_1_4]; decide) (by rw [t_1_4]; decide) (by rw [t_1_4]; rfl) (by decide) ?_
    refine lv_aload_n hx hb dX11_count_89 rfl (lv_at hl 0 rfl) ?_
    refine va_get (D := D) (ci := 11) (v := .int (mi 27)) (C := RX11) (T := TX11) (N := 74) hx hb ha inlX11 hown hK hP 0 mw_at0 rfl 27 (by decide) (ha _ kf_X11_329) (fun _ h9 => h9) rfl dX11_count_90 ?_
    refine lv_topi (fun x_9 ex_9 => ?_)
    have hE := bd_at ex_9 hE
    have u_x_9 := congrArg Int32.toInt ex_9
    exact W.iret (v := x_9) hx hb hr (fun t ht hW => ⟨⟨x_9, (), rfl, ⟨trivial, by rw [← hRES, hE]⟩, ⟨mi, ma, ⟨⟨hI, fun k hk => (hFI k hk).trans (by rw [hmi0]), fun k hk => (hFA k hk).trans (by rw [hma0])⟩, by rw [← hRES, hE], by rw [← hRES, hE]⟩, by rw [ht]; exact hP, va_K.moved hW.alike hK, hD⟩⟩, hS.F ht⟩) hS.2.2 dX11_count_93
  have hE := hE.trans (if_neg t_1_4)
  by_cases t_1_5 : n1 = 5
  · have hE := hE.trans (if_pos t_1_5)
    refine lv_tableIn (tgt := 94) (off := 93) hx hb dX11_count_1 (by rw [t_1_5]; decide) (by rw [t_1_5]; decide) (by rw [t_1_5]; rfl) (by decide) ?_
    refine lv_aload_n hx hb dX11_count_94 rfl (lv_at hl 0 rfl) ?_
    refine va_get (D := D) (ci := 11) (v := .int (mi 28)) (C := RX11) (T := TX11) (N := 74) hx hb ha inlX11 hown hK hP 0 mw_at0 rfl 28 (by decide) (ha _ kf_X11_326) (fun _ h9 => h9) rfl dX11_count_95 ?_
    refine lv_topi (fun x_10 ex_10 => ?_)
    have hE := bd_at ex_10 hE
    have u_x_10 := congrArg Int32.toInt ex_10
    exact W.iret (v := x_10) hx hb hr (fun t ht hW => ⟨⟨x_10, (), rfl, ⟨trivial, by rw [← hRES, hE]⟩, ⟨mi, ma, ⟨⟨hI, fun k hk => (hFI k hk).trans (by rw [hmi0]), fun k hk => (hFA k hk).trans (by rw [hma0])⟩, by rw [← hRES, hE], by rw [← hRES, hE]⟩, by rw [ht]; exact hP, va_K.moved hW.alike hK, hD⟩⟩, hS.F ht⟩) hS.2.2 dX11_count_98
  have hE := hE.trans (if_neg t_1_5)
  by_cases t_1_6 : n1 = 6
  · have hE := hE.trans (if_pos t_1_6)
    refine lv_tableIn (tgt := 99) (off := 98) hx hb dX11_count_1 (by rw [t_1_6]; decide) (by rw [t_1_6]; decide) (by rw [t_1_6]; rfl) (by decide) ?_
    refine lv_aload_n hx hb dX11_count_99 rfl (lv_at hl 0 rfl) ?_
    refine va_get (D := D) (ci := 11) (v := .int (mi 11)) (C := RX11) (T := TX11) (N := 74) hx hb ha inlX11 hown hK hP 0 mw_at0 rfl 11 (by decide) (ha _ kf_X11_236) (fun _ h9 => h9) rfl dX11_count_100 ?_
    refine lv_topi (fun x_11 ex_11 => ?_)
    have hE := bd_at ex_11 hE
    have u_x_11 := congrArg Int32.toInt ex_11
    have r_x_11 := MI_wayEnd hI
    rw [← ex_11] at r_x_11
    refine lv_aload_n hx hb dX11_count_103 rfl (lv_at hl 0 rfl) ?_
    refine va_get (D := D) (ci := 11) (v := .int (mi 10)) (C := RX11) (T := TX11) (N := 74) hx hb ha inlX11 hown hK hP 0 mw_at0 rfl 10 (by decide) (ha _ kf_X11_242) (fun _ h9 => h9) rfl dX11_count_104 ?_
    refine lv_topi (fun x_12 ex_12 => ?_)
    have hE := bd_at ex_12 hE
    have u_x_12 := congrArg Int32.toInt ex_12
    have r_x_12 := MI_wayFirst hI
    rw [← ex_12] at r_x_12
    refine lv_isub hx hb dX11_count_107 ?_
    refine lv_topi (fun x_13 ex_13 => ?_)
    have hE := bd_at ex_13 hE
    exact W.iret (v := x_13) hx hb hr (fun t ht hW => ⟨⟨x_13, (), rfl, ⟨trivial, by rw [← hRES, hE]⟩, ⟨mi, ma, ⟨⟨hI, fun k hk => (hFI k hk).trans (by rw [hmi0]), fun k hk => (hFA k hk).trans (by rw [hma0])⟩, by rw [← hRES, hE], by rw [← hRES, hE]⟩, by rw [ht]; exact hP, va_K.moved hW.alike hK, hD⟩⟩, hS.F ht⟩) hS.2.2 dX11_count_108
  have hE := hE.trans (if_neg t_1_6)
  by_cases t_1_7 : n1 = 7
  · have hE := hE.trans (if_pos t_1_7)
    refine lv_tableIn (tgt := 109) (off := 108) hx hb dX11_count_1 (by rw [t_1_7]; decide) (by rw [t_1_7]; decide) (by rw [t_1_7]; rfl) (by decide) ?_
    refine lv_aload_n hx hb dX11_count_109 rfl (lv_at hl 0 rfl) ?_
    refine va_get (D := D) (ci := 11) (v := .int (mi 18)) (C := RX11) (T := TX11) (N := 74) hx hb ha inlX11 hown hK hP 0 mw_at0 rfl 18 (by decide) (ha _ kf_X11_268) (fun _ h9 => h9) rfl dX11_count_110 ?_
    refine lv_topi (fun x_14 ex_14 => ?_)
    have hE := bd_at ex_14 hE
    have u_x_14 := congrArg Int32.toInt ex_14
    have r_x_14 := MI_ackEnd hI
    rw [← ex_14] at r_x_14
    refine lv_aload_n hx hb dX11_count_113 rfl (lv_at hl 0 rfl) ?_
    refine va_get (D := D) (ci := 11) (v := .int (mi 17)) (C := RX11) (T := TX11) (N := 74) hx hb ha inlX11 hown hK hP 0 mw_at0 rfl 17 (by decide) (ha _ kf_X11_271) (fun _ h9 => h9) rfl dX11_count_114 ?_
    refine lv_topi (fun x_15 ex_15 => ?_)
    have hE := bd_at ex_15 hE
    have u_x_15 := congrArg Int32.toInt ex_15
    have r_x_15 := MI_ackFirst hI
    rw [← ex_15] at r_x_15
    refine lv_isub hx hb dX11_count_117 ?_
    refine lv_topi (fun x_16 ex_16 => ?_)
    have hE := bd_at ex_16 hE
    exact W.iret (v := x_16) hx hb hr (fun t ht hW => ⟨⟨x_16, (), rfl, ⟨trivial, by rw [← hRES, hE]⟩, ⟨mi, ma, ⟨⟨hI, fun k hk => (hFI k hk).trans (by rw [hmi0]), fun k hk => (hFA k hk).trans (by rw [hma0])⟩, by rw [← hRES, hE], by rw [← hRES, hE]⟩, by rw [ht]; exact hP, va_K.moved hW.alike hK, hD⟩⟩, hS.F ht⟩) hS.2.2 dX11_count_118
  have hE := hE.trans (if_neg t_1_7)
  by_cases t_1_8 : n1 = 8
  · have hE := hE.trans (if_pos t_1_8)
    refine lv_tableIn (tgt := 119) (off := 118) hx hb dX11_count_1 (by rw [t_1_8]; decide) (by rw [t_1_8]; decide) (by rw [t_1_8]; rfl) (by decide) ?_
    refine lv_aload_n hx hb dX11_count_119 rfl (lv_at hl 0 rfl) ?_
    refine va_get (D := D) (ci := 11) (v := .int (mi 6)) (C := RX11) (T := TX11) (N := 74) hx hb ha inlX11 hown hK hP 0 mw_at0 rfl 6 (by decide) (ha _ kf_X11_230) (fun _ h9 => h9) rfl dX11_count_120 ?_
    refine lv_topi (fun x_17 ex_17 => ?_)
    have hE := bd_at ex_17 hE
    have u_x_17 := congrArg Int32.toInt ex_17
    have r_x_17 := MI_linked hI
    rw [← ex_17] at r_x_17
    refine lv_if_le (tgt := 130) hx hb dX11_count_123 (by decide) (fun c_18 => ?_) (fun c_18 => ?_)
    · have t_c_18 := Int32.le_iff_toInt_le.mp c_18
      have hE := hE.trans (if_pos c_18)
      refine lv_iconst (v := 0) hx hb dX11_count_130 (by decide) ?_
      exact W.iret (v := 0) hx hb hr (fun t ht hW => ⟨⟨0, (), rfl, ⟨trivial, by rw [← hRES, hE]⟩, ⟨mi, ma, ⟨⟨hI, fun k hk => (hFI k hk).trans (by rw [hmi0]), fun k hk => (hFA k hk).trans (by rw [hma0])⟩, by rw [← hRES, hE], by rw [← hRES, hE]⟩, by rw [ht]; exact hP, va_K.moved hW.alike hK, hD⟩⟩, hS.F ht⟩) hS.2.2 dX11_count_131
    · have t_c_18 := Int32.lt_iff_toInt_lt.mp (Int32.not_le.mp c_18)
      have hE := hE.trans (if_neg c_18)
      refine lv_iconst (v := 1) hx hb dX11_count_126 (by decide) ?_
      refine lv_goto (tgt := 131) hx hb dX11_count_127 (by decide) ?_
      exact W.iret (v := 1) hx hb hr (fun t ht hW => ⟨⟨1, (), rfl, ⟨trivial, by rw [← hRES, hE]⟩, ⟨mi, ma, ⟨⟨hI, fun k hk => (hFI k hk).trans (by rw [hmi0]), fun k hk => (hFA k hk).trans (by rw [hma0])⟩, by rw [← hRES, hE], by rw [← hRES, hE]⟩, by rw [ht]; exact hP, va_K.moved hW.alike hK, hD⟩⟩, hS.F ht⟩) hS.2.2 dX11_count_131
  have hE := hE.trans (if_neg t_1_8)
  by_cases t_1_9 : n1 = 9
  · have hE := hE.trans (if_pos t_1_9)
    refine lv_tableIn (tgt := 132) (off := 131) hx hb dX11_count_1 (by rw [t_1_9]; decide) (by rw [t_1_9]; decide) (by rw [t_1_9]; rfl) (by decide) ?_
    refine lv_aload_n hx hb dX11_count_132 rfl (lv_at hl 0 rfl) ?_
    refine va_get (D := D) (ci := 11) (v := .int (mi 29)) (C := RX11) (T := TX11) (N := 74) hx hb ha inlX11 hown hK hP 0 mw_at0 rfl 29 (by decide) (ha _ kf_X11_257) (fun _ h9 => h9) rfl dX11_count_133 ?_
    refine lv_topi (fun x_19 ex_19 => ?_)
    have hE := bd_at ex_19 hE
    have u_x_19 := congrArg Int32.toInt ex_19
    exact W.iret (v := x_19) hx hb hr (fun t ht hW => ⟨⟨x_19, (), rfl, ⟨trivial, by rw [← hRES, hE]⟩, ⟨mi, ma, ⟨⟨hI, fun k hk => (hFI k hk).trans (by rw [hmi0]), fun k hk => (hFA k hk).trans (by rw [hma0])⟩, by rw [← hRES, hE], by rw [← hRES, hE]⟩, by rw [ht]; exact hP, va_K.moved hW.alike hK, hD⟩⟩, hS.F ht⟩) hS.2.2 dX11_count_136
  have hE := hE.trans (if_neg t_1_9)
  refine lv_tableOut (tgt := 137) hx hb dX11_count_1 (by have h0 := lv_neT (a := 0) t_1_0 (by decide); have h1 := lv_neT (a := 1) t_1_1 (by decide); have h2 := lv_neT (a := 2) t_1_2 (by decide); have h3 := lv_neT (a := 3) t_1_3 (by decide); have h4 := lv_neT (a := 4) t_1_4 (by decide); have h5 := lv_neT (a := 5) t_1_5 (by decide); have h6 := lv_neT (a := 6) t_1_6 (by decide); have h7 := lv_neT (a := 7) t_1_7 (by decide); have h8 := lv_neT (a := 8) t_1_8 (by decide); have h9 := lv_neT (a := 9) t_1_9 (by decide); omega) (by decide) ?_
  refine lv_iconst (v := (-1)) hx hb dX11_count_137 (by decide) ?_
  exact W.iret (v := (-1)) hx hb hr (fun t ht hW => ⟨⟨(-1), (), rfl, ⟨trivial, by rw [← hRES, hE]⟩, ⟨mi, ma, ⟨⟨hI, fun k hk => (hFI k hk).trans (by rw [hmi0]), fun k hk => (hFA k hk).trans (by rw [hma0])⟩, by rw [← hRES, hE], by rw [← hRES, hE]⟩, by rw [ht]; exact hP, va_K.moved hW.alike hK, hD⟩⟩, hS.F ht⟩) hS.2.2 dX11_count_138

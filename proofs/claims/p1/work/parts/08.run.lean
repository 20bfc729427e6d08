set_option maxHeartbeats 4000000 in
set_option maxRecDepth 100000 in
theorem c_firstDue (l : Launch) (D : va_G) (cI cJ cZ cO : ClassId) (sz : Nat) (h0 : Nat) : Met l yX1_firstDue (wa yX1_firstDue cX1_firstDue 1 (some .int)) ({ frames := 0, cells := 0, slots := 0, locals := 0 }) (va_Pc [.ref h0] (pw_s D cI cJ cZ cO sz [(h0, .inr (1, [.null, .null, .int 0]))])) (va_Qi (fun (r : Int32) (_ : Unit) => r = 2147483647) (fun (_ : Unit) (t : State) => pw_t D cI cJ cZ cO (va_A [(h0, .inr (1, [.null, .null, .int 0]))] sz) [(h0, .inr (1, [.null, .null, .int 0]))] t) (va_A [(h0, .inr (1, [.null, .null, .int 0]))] sz)) 0 0 (va_A [(h0, .inr (1, [.null, .null, .int 0]))] sz) := by
  refine Met.ofW (cc := cX1_firstDue) (maxL := 1) (ret := (some .int)) (by decide) rfl ?_
  intro p e s m args below meth c s₁ B hml hv
  obtain ⟨rfl, hsz, hP, hK, hD0, hN⟩ := hv
  have hx := B.exec
  have hb := B.bytes
  have hr := B.returns
  have hts := atoms_spec (ws := (wa yX1_firstDue cX1_firstDue 1 (some .int))) B.pre
  have ha : ∀ w ∈ wsL_law, w.before _ s = true := fun w h => hts w (List.mem_cons_of_mem _ h)
  have hown : s.vm.findClass RX1 = some m.cls := findClass_of_methodNamed B.named
  have hlocks := B.notSynchronized
  subst hsz
  have hD := hD0.self (sz := s.heap.size)
  generalize hAe : va_A [(h0, .inr (1, [.null, .null, .int 0]))] s.heap.size = A at hD ⊢
  have hA : ∀ q : Nat, s.heap.size ≤ q → A q := fun q h => by rw [← hAe]; exact Or.inr h
  have hS : va_S A s.heap s.heap [] := va_S.rf
  have hP : va_P D vwCl [(h0, .inr (1, [.null, .null, .int 0]))] s.heap := hP
  have hl := lv_entry ([.ref h0]) (n := 1) (Nat.le_of_ble_eq_true rfl)
  rw [lg_entry_eq]
  generalize (lg_sl ([.ref h0]) ++ List.replicate (1 - (lg_sl ([.ref h0])).length) Slot.unset).toArray = ls at hl ⊢
  have hl : lv_has ls 1 [(0, .ref h0)] := hl
  refine lv_aload_n hx hb dX1_firstDue_0 rfl (lv_at hl 0 rfl) ?_
  refine va_get (D := D) (ci := 1) (v := .null) (C := RX1) (T := TX1) (N := 3) hx hb ha inlX1 hown hK hP 0 rfl rfl 0 (by decide) (ha _ kf_X1_20) (fun _ h9 => h9) rfl dX1_firstDue_1 ?_
  refine lv_ifnonnullN hx hb dX1_firstDue_4 ?_
  refine lv_ldc (v := 2147483647) hx hb hown (ha _ kk_X1_42) dX1_firstDue_7 ?_
  refine lv_goto (tgt := 19) hx hb dX1_firstDue_9 (by decide) ?_
  have hP9 := hP.sub (ws' := [(h0, .inr (1, [.null, .null, .int 0]))]) [0] rfl
  have hD9 := hD.sub (ws' := [(h0, .inr (1, [.null, .null, .int 0]))]) [0] (by decide) rfl
  exact W.iret (v := 2147483647) hx hb hr (fun t ht hW => ⟨⟨2147483647, (), rfl, rfl, ⟨by rw [ht]; exact hP9, va_K.moved hW.alike hK, hD9⟩⟩, hS.F ht⟩) hS.2.2 dX1_firstDue_19

set_option maxHeartbeats 4000000 in
set_option maxRecDepth 100000 in
theorem c_nextDue (l : Launch) (D : va_G) (cI cJ cZ cO : ClassId) (sz : Nat) (h0 h1 h2 h3 h4 h5 : Nat) : Met l yX7_nextDue (wa yX7_nextDue cX7_nextDue 2 (some .int)) ({ frames := 1, cells := 0, slots := 0, locals := 30 }) (va_Pc [.ref h0] (pw_s D cI cJ cZ cO sz [(h0, .inr (7, [.int 10, .int 20, .int 20, .int 20, .null, .ref h1, .ref h2, .ref h3, .ref h4, .ref h5, .int 0, .int 0, .int 0, .int 0, .int 0])), (h1, .inr (1, [.null, .null, .int 0])), (h2, .inr (1, [.null, .null, .int 0])), (h3, .inr (1, [.null, .null, .int 0]))])) (va_Qi (fun (r : Int32) (_ : Unit) => r = 2147483647) (fun (_ : Unit) (t : State) => pw_t D cI cJ cZ cO (va_A [(h0, .inr (7, [.int 10, .int 20, .int 20, .int 20, .null, .ref h1, .ref h2, .ref h3, .ref h4, .ref h5, .int 0, .int 0, .int 0, .int 0, .int 0])), (h1, .inr (1, [.null, .null, .int 0])), (h2, .inr (1, [.null, .null, .int 0])), (h3, .inr (1, [.null, .null, .int 0]))] sz) [(h0, .inr (7, [.int 10, .int 20, .int 20, .int 20, .null, .ref h1, .ref h2, .ref h3, .ref h4, .ref h5, .int 0, .int 0, .int 0, .int 0, .int 0])), (h1, .inr (1, [.null, .null, .int 0])), (h2, .inr (1, [.null, .null, .int 0])), (h3, .inr (1, [.null, .null, .int 0]))] t) (va_A [(h0, .inr (7, [.int 10, .int 20, .int 20, .int 20, .null, .ref h1, .ref h2, .ref h3, .ref h4, .ref h5, .int 0, .int 0, .int 0, .int 0, .int 0])), (h1, .inr (1, [.null, .null, .int 0])), (h2, .inr (1, [.null, .null, .int 0])), (h3, .inr (1, [.null, .null, .int 0]))] sz)) 0 0 (va_A [(h0, .inr (7, [.int 10, .int 20, .int 20, .int 20, .null, .ref h1, .ref h2, .ref h3, .ref h4, .ref h5, .int 0, .int 0, .int 0, .int 0, .int 0])), (h1, .inr (1, [.null, .null, .int 0])), (h2, .inr (1, [.null, .null, .int 0])), (h3, .inr (1, [.null, .null, .int 0]))] sz) := by
  refine Met.ofW (cc := cX7_nextDue) (maxL := 2) (ret := (some .int)) (by decide) rfl ?_
  intro p e s m args below meth c s₁ B hml hv
  obtain ⟨rfl, hsz, hP, hK, hD0, hN⟩ := hv
  have hx := B.exec
  have hb := B.bytes
  have hr := B.returns
  have hts := atoms_spec (ws := (wa yX7_nextDue cX7_nextDue 2 (some .int))) B.pre
  have ha : ∀ w ∈ wsL_law, w.before _ s = true := fun w h => hts w (List.mem_cons_of_mem _ h)
  have hown : s.vm.findClass RX7 = some m.cls := findClass_of_methodNamed B.named
  have hlocks := B.notSynchronized
  subst hsz
  have hD := hD0.self (sz := s.heap.size)
  generalize hAe : va_A [(h0, .inr (7, [.int 10, .int 20, .int 20, .int 20, .null, .ref h1, .ref h2, .ref h3, .ref h4, .ref h5, .int 0, .int 0, .int 0, .int 0, .int 0])), (h1, .inr (1, [.null, .null, .int 0])), (h2, .inr (1, [.null, .null, .int 0])), (h3, .inr (1, [.null, .null, .int 0]))] s.heap.size = A at hD ⊢
  have hA : ∀ q : Nat, s.heap.size ≤ q → A q := fun q h => by rw [← hAe]; exact Or.inr h
  have hS : va_S A s.heap s.heap [] := va_S.rf
  have hP : va_P D vwCl [(h0, .inr (7, [.int 10, .int 20, .int 20, .int 20, .null, .ref h1, .ref h2, .ref h3, .ref h4, .ref h5, .int 0, .int 0, .int 0, .int 0, .int 0])), (h1, .inr (1, [.null, .null, .int 0])), (h2, .inr (1, [.null, .null, .int 0])), (h3, .inr (1, [.null, .null, .int 0]))] s.heap := hP
  have hl := lv_entry ([.ref h0]) (n := 2) (Nat.le_of_ble_eq_true rfl)
  rw [lg_entry_eq]
  generalize (lg_sl ([.ref h0]) ++ List.replicate (2 - (lg_sl ([.ref h0])).length) Slot.unset).toArray = ls at hl ⊢
  have hl : lv_has ls 2 [(0, .ref h0)] := hl
  refine lv_aload_n hx hb dX7_nextDue_0 rfl (lv_at hl 0 rfl) ?_
  refine va_get (D := D) (ci := 7) (v := .ref h2) (C := RX7) (T := TX7) (N := 15) hx hb ha inlX7 hown hK hP 0 rfl rfl 6 (by decide) (ha _ kf_X7_31) (fun _ h9 => h9) rfl dX7_nextDue_1 ?_
  have hPc := hP.sub (ws' := [(h2, .inr (1, [.null, .null, .int 0]))]) [2] rfl
  have hDc := hD.sub (ws' := [(h2, .inr (1, [.null, .null, .int 0]))]) [2] (by decide) rfl
  have hFc := va_free (wc := [(h2, .inr (1, [.null, .null, .int 0]))]) hD hS hA [2] rfl
  refine va_calli (va_runV (As := []) (rest := []) ⟨hx, hb, hml, hown, ha⟩ (c_firstDue l D cI cJ cZ cO _ h2) (cwV 0 ha (gaV kl_X7_122 km_X1_firstDue ks_X1_firstDue kz_X1 kd_X1_firstDue) rfl rfl rfl (by decide +kernel) ⟨Nat.le_of_ble_eq_true rfl, Nat.le_of_ble_eq_true rfl⟩) ⟨pw_blind, va_recv hK hPc (ci := 1) (q0 := 0) rfl rfl, fun U hU hW => ⟨rfl, pw_start hU hW hPc hK hDc hN⟩⟩ rfl rfl hl.1 rfl (lv_room (Nat.le_of_ble_eq_true rfl)) dX7_nextDue_4 ⟨Nat.le_of_ble_eq_true rfl, Nat.le_of_ble_eq_true rfl⟩) hS (fun q _ h => hFc q h) hFc (fun r_1 u t H1 locs ht hvm hw hB hz1 hk1 hS => ?_)
  obtain ⟨hP1, hK1, hD1⟩ := hB
  rw [ht] at hP1
  obtain ⟨hP, hD⟩ := va_join (wr := [(h0, .inr (7, [.int 10, .int 20, .int 20, .int 20, .null, .ref h1, .ref h2, .ref h3, .ref h4, .ref h5, .int 0, .int 0, .int 0, .int 0, .int 0])), (h1, .inr (1, [.null, .null, .int 0])), (h3, .inr (1, [.null, .null, .int 0]))]) (w1 := [(h2, .inr (1, [.null, .null, .int 0]))]) hP hD [2] [0, 1, 3] rfl rfl (by decide) (by decide) hk1 hFc hP1 hD1
  generalize H1 = H at hP hS ⊢
  have hP : va_P D vwCl [(h0, .inr (7, [.int 10, .int 20, .int 20, .int 20, .null, .ref h1, .ref h2, .ref h3, .ref h4, .ref h5, .int 0, .int 0, .int 0, .int 0, .int 0])), (h1, .inr (1, [.null, .null, .int 0])), (h3, .inr (1, [.null, .null, .int 0])), (h2, .inr (1, [.null, .null, .int 0]))] H := hP
  have hD : va_D A [(h0, .inr (7, [.int 10, .int 20, .int 20, .int 20, .null, .ref h1, .ref h2, .ref h3, .ref h4, .ref h5, .int 0, .int 0, .int 0, .int 0, .int 0])), (h1, .inr (1, [.null, .null, .int 0])), (h3, .inr (1, [.null, .null, .int 0])), (h2, .inr (1, [.null, .null, .int 0]))] := hD
  refine W.widen (k := 0) (n := 0) (Nat.le_of_ble_eq_true rfl) (Nat.le_of_ble_eq_true rfl) ?_
  obtain rfl : r_1 = 2147483647 := hw
  refine lv_aload_n hx hb dX7_nextDue_7 rfl (lv_at hl 0 rfl) ?_
  refine va_get (D := D) (ci := 7) (v := .ref h3) (C := RX7) (T := TX7) (N := 15) hx hb ha inlX7 hown hK hP 0 rfl rfl 7 (by decide) (ha _ kf_X7_34) (fun _ h9 => h9) rfl dX7_nextDue_8 ?_
  have hPc := hP.sub (ws' := [(h3, .inr (1, [.null, .null, .int 0]))]) [2] rfl
  have hDc := hD.sub (ws' := [(h3, .inr (1, [.null, .null, .int 0]))]) [2] (by decide) rfl
  have hFc := va_free (wc := [(h3, .inr (1, [.null, .null, .int 0]))]) hD hS hA [2] rfl
  refine va_calli (va_runV (As := []) (rest := [.int 2147483647]) ⟨hx, hb, hml, hown, ha⟩ (c_firstDue l D cI cJ cZ cO _ h3) (cwV 0 ha (gaV kl_X7_122 km_X1_firstDue ks_X1_firstDue kz_X1 kd_X1_firstDue) rfl rfl rfl (by decide +kernel) ⟨Nat.le_of_ble_eq_true rfl, Nat.le_of_ble_eq_true rfl⟩) ⟨pw_blind, va_recv hK hPc (ci := 1) (q0 := 0) rfl rfl, fun U hU hW => ⟨rfl, pw_start hU hW hPc hK hDc hN⟩⟩ rfl rfl hl.1 rfl (lv_room (Nat.le_of_ble_eq_true rfl)) dX7_nextDue_11 ⟨Nat.le_of_ble_eq_true rfl, Nat.le_of_ble_eq_true rfl⟩) hS (fun q _ h => hFc q h) hFc (fun r_2 u t H1 locs ht hvm hw hB hz1 hk1 hS => ?_)
  obtain ⟨hP1, hK1, hD1⟩ := hB
  rw [ht] at hP1
  obtain ⟨hP, hD⟩ := va_join (wr := [(h0, .inr (7, [.int 10, .int 20, .int 20, .int 20, .null, .ref h1, .ref h2, .ref h3, .ref h4, .ref h5, .int 0, .int 0, .int 0, .int 0, .int 0])), (h1, .inr (1, [.null, .null, .int 0])), (h2, .inr (1, [.null, .null, .int 0]))]) (w1 := [(h3, .inr (1, [.null, .null, .int 0]))]) hP hD [2] [0, 1, 3] rfl rfl (by decide) (by decide) hk1 hFc hP1 hD1
  generalize H1 = H at hP hS ⊢
  have hP : va_P D vwCl [(h0, .inr (7, [.int 10, .int 20, .int 20, .int 20, .null, .ref h1, .ref h2, .ref h3, .ref h4, .ref h5, .int 0, .int 0, .int 0, .int 0, .int 0])), (h1, .inr (1, [.null, .null, .int 0])), (h2, .inr (1, [.null, .null, .int 0])), (h3, .inr (1, [.null, .null, .int 0]))] H := hP
  have hD : va_D A [(h0, .inr (7, [.int 10, .int 20, .int 20, .int 20, .null, .ref h1, .ref h2, .ref h3, .ref h4, .ref h5, .int 0, .int 0, .int 0, .int 0, .int 0])), (h1, .inr (1, [.null, .null, .int 0])), (h2, .inr (1, [.null, .null, .int 0])), (h3, .inr (1, [.null, .null, .int 0]))] := hD
  refine W.widen (k := 0) (n := 0) (Nat.le_of_ble_eq_true rfl) (Nat.le_of_ble_eq_true rfl) ?_
  obtain rfl : r_2 = 2147483647 := hw
  refine va_mmin hx hb (hml.trans hl.1.symm) hown (ha _ kl_X7_126) (ha _ kt_min) (ha _ kz_J9) (ha _ kd_min) (Nat.le_of_ble_eq_true rfl) (Nat.le_of_ble_eq_true rfl) (Nat.le_of_ble_eq_true rfl) (Nat.le_of_ble_eq_true rfl) dX7_nextDue_14 ?_
  refine lv_topi (fun v_3 ev_3 => ?_)
  obtain rfl : v_3 = 2147483647 := ev_3.trans (by decide)
  refine lv_istore_n (lv' := [(1, .int 2147483647), (0, .ref h0)]) hx hb dX7_nextDue_17 rfl hl (by decide) rfl (fun ls hl => ?_)
  refine lv_aload_n hx hb dX7_nextDue_18 rfl (lv_at hl 1 rfl) ?_
  refine va_get (D := D) (ci := 7) (v := .null) (C := RX7) (T := TX7) (N := 15) hx hb ha inlX7 hown hK hP 0 rfl rfl 4 (by decide) (ha _ kf_X7_54) (fun _ h9 => h9) rfl dX7_nextDue_19 ?_
  refine lv_ifnonnullN hx hb dX7_nextDue_22 ?_
  refine lv_iload_n hx hb dX7_nextDue_25 rfl (lv_at hl 0 rfl) ?_
  refine lv_goto (tgt := 40) hx hb dX7_nextDue_26 (by decide) ?_
  have hP9 := hP.sub (ws' := [(h0, .inr (7, [.int 10, .int 20, .int 20, .int 20, .null, .ref h1, .ref h2, .ref h3, .ref h4, .ref h5, .int 0, .int 0, .int 0, .int 0, .int 0])), (h1, .inr (1, [.null, .null, .int 0])), (h2, .inr (1, [.null, .null, .int 0])), (h3, .inr (1, [.null, .null, .int 0]))]) [0, 1, 2, 3] rfl
  have hD9 := hD.sub (ws' := [(h0, .inr (7, [.int 10, .int 20, .int 20, .int 20, .null, .ref h1, .ref h2, .ref h3, .ref h4, .ref h5, .int 0, .int 0, .int 0, .int 0, .int 0])), (h1, .inr (1, [.null, .null, .int 0])), (h2, .inr (1, [.null, .null, .int 0])), (h3, .inr (1, [.null, .null, .int 0]))]) [0, 1, 2, 3] (by decide) rfl
  exact W.iret (v := 2147483647) hx hb hr (fun t ht hW => ⟨⟨2147483647, (), rfl, rfl, ⟨by rw [ht]; exact hP9, va_K.moved hW.alike hK, hD9⟩⟩, hS.F ht⟩) hS.2.2 dX7_nextDue_40

set_option maxHeartbeats 4000000 in
set_option maxRecDepth 100000 in
theorem c_moveLink (l : Launch) (D : va_G) (cI cJ cZ cO : ClassId) (sz : Nat) (h0 h1 h2 h3 h4 h5 : Nat) (n : Int32) : Met l yX7_moveLink (wa yX7_moveLink cX7_moveLink 4 none) ({ frames := 0, cells := 0, slots := 0, locals := 0 }) (va_Pc [.ref h0, .int n] (pw_s D cI cJ cZ cO sz [(h0, .inr (7, [.int 10, .int 20, .int 20, .int 20, .null, .ref h1, .ref h2, .ref h3, .ref h4, .ref h5, .int 0, .int 0, .int 0, .int 0, .int 0]))])) (va_Qv (fun (_ : Unit) => True) (fun (_ : Unit) (t : State) => pw_t D cI cJ cZ cO (va_A [(h0, .inr (7, [.int 10, .int 20, .int 20, .int 20, .null, .ref h1, .ref h2, .ref h3, .ref h4, .ref h5, .int 0, .int 0, .int 0, .int 0, .int 0]))] sz) [(h0, .inr (7, [.int 10, .int 20, .int 20, .int 20, .null, .ref h1, .ref h2, .ref h3, .ref h4, .ref h5, .int 0, .int 0, .int 0, .int 0, .int 0]))] t) (va_A [(h0, .inr (7, [.int 10, .int 20, .int 20, .int 20, .null, .ref h1, .ref h2, .ref h3, .ref h4, .ref h5, .int 0, .int 0, .int 0, .int 0, .int 0]))] sz)) 0 0 (va_A [(h0, .inr (7, [.int 10, .int 20, .int 20, .int 20, .null, .ref h1, .ref h2, .ref h3, .ref h4, .ref h5, .int 0, .int 0, .int 0, .int 0, .int 0]))] sz) := by
  refine Met.ofW (cc := cX7_moveLink) (maxL := 4) (ret := none) (by decide) rfl ?_
  intro p e s m args below meth c s₁ B hml hv
  obtain ⟨rfl, hsz, hP, hK, hD0, hN⟩ := hv
  have hx := B.exec
  have hb := B.bytes
  have hr := B.returns
  have hts := atoms_spec (ws := (wa yX7_moveLink cX7_moveLink 4 none)) B.pre
  have ha : ∀ w ∈ wsL_law, w.before _ s = true := fun w h => hts w (List.mem_cons_of_mem _ h)
  have hown : s.vm.findClass RX7 = some m.cls := findClass_of_methodNamed B.named
  have hlocks := B.notSynchronized
  subst hsz
  have hD := hD0.self (sz := s.heap.size)
  generalize hAe : va_A [(h0, .inr (7, [.int 10, .int 20, .int 20, .int 20, .null, .ref h1, .ref h2, .ref h3, .ref h4, .ref h5, .int 0, .int 0, .int 0, .int 0, .int 0]))] s.heap.size = A at hD ⊢
  have hA : ∀ q : Nat, s.heap.size ≤ q → A q := fun q h => by rw [← hAe]; exact Or.inr h
  have hS : va_S A s.heap s.heap [] := va_S.rf
  have hP : va_P D vwCl [(h0, .inr (7, [.int 10, .int 20, .int 20, .int 20, .null, .ref h1, .ref h2, .ref h3, .ref h4, .ref h5, .int 0, .int 0, .int 0, .int 0, .int 0]))] s.heap := hP
  have hl := lv_entry ([.ref h0, .int n]) (n := 4) (Nat.le_of_ble_eq_true rfl)
  rw [lg_entry_eq]
  generalize (lg_sl ([.ref h0, .int n]) ++ List.replicate (4 - (lg_sl ([.ref h0, .int n])).length) Slot.unset).toArray = ls at hl ⊢
  have hl : lv_has ls 4 [(0, .ref h0), (1, .int n)] := hl
  refine lv_aload_n hx hb dX7_moveLink_0 rfl (lv_at hl 0 rfl) ?_
  refine va_get (D := D) (ci := 7) (v := .null) (C := RX7) (T := TX7) (N := 15) hx hb ha inlX7 hown hK hP 0 rfl rfl 4 (by decide) (ha _ kf_X7_54) (fun _ h9 => h9) rfl dX7_moveLink_1 ?_
  refine lv_astore_nN (lv' := [(2, .null), (0, .ref h0), (1, .int n)]) hx hb dX7_moveLink_4 rfl hl (by decide) rfl (fun ls hl => ?_)
  refine lv_aload_nN hx hb dX7_moveLink_5 rfl (lv_at hl 0 rfl) ?_
  refine lv_ifnullN (tgt := 17) hx hb dX7_moveLink_6 (by decide) ?_
  have hP9 := hP.sub (ws' := [(h0, .inr (7, [.int 10, .int 20, .int 20, .int 20, .null, .ref h1, .ref h2, .ref h3, .ref h4, .ref h5, .int 0, .int 0, .int 0, .int 0, .int 0]))]) [0] rfl
  have hD9 := hD.sub (ws' := [(h0, .inr (7, [.int 10, .int 20, .int 20, .int 20, .null, .ref h1, .ref h2, .ref h3, .ref h4, .ref h5, .int 0, .int 0, .int 0, .int 0, .int 0]))]) [0] (by decide) rfl
  exact W.vret hx hb hr (fun t ht hW => ⟨⟨(), rfl, trivial, ⟨by rw [ht]; exact hP9, va_K.moved hW.alike hK, hD9⟩⟩, hS.F ht⟩) hS.2.2 dX7_moveLink_17

set_option maxHeartbeats 4000000 in
set_option maxRecDepth 100000 in
theorem c_bringSegments (l : Launch) (D : va_G) (cI cJ cZ cO : ClassId) (sz : Nat) (h0 h1 h2 h3 h4 h5 h6 h7 : Nat) : Met l yX10_bringSegments (wa yX10_bringSegments cX10_bringSegments 3 none) ({ frames := 0, cells := 0, slots := 0, locals := 0 }) (va_Pc [.ref h0] (pw_s D cI cJ cZ cO sz [(h0, .inr (10, [.ref h1, .ref h7, .int 0])), (h1, .inr (7, [.int 10, .int 20, .int 20, .int 20, .null, .ref h2, .ref h3, .ref h4, .ref h5, .ref h6, .int 0, .int 0, .int 0, .int 0, .int 0])), (h2, .inr (1, [.null, .null, .int 0])), (h3, .inr (1, [.null, .null, .int 0])), (h4, .inr (1, [.null, .null, .int 0])), (h5, .inr (1, [.null, .null, .int 0])), (h6, .inl (cI, 64, .inl (fun _ => 0))), (h7, .inl (cO, 0, .inr (.inr (.inr (.inr (fun _ => none))))))])) (va_Qv (fun (_ : Unit) => True) (fun (_ : Unit) (t : State) => pw_t D cI cJ cZ cO (va_A [(h0, .inr (10, [.ref h1, .ref h7, .int 0])), (h1, .inr (7, [.int 10, .int 20, .int 20, .int 20, .null, .ref h2, .ref h3, .ref h4, .ref h5, .ref h6, .int 0, .int 0, .int 0, .int 0, .int 0])), (h2, .inr (1, [.null, .null, .int 0])), (h3, .inr (1, [.null, .null, .int 0])), (h4, .inr (1, [.null, .null, .int 0])), (h5, .inr (1, [.null, .null, .int 0])), (h6, .inl (cI, 64, .inl (fun _ => 0))), (h7, .inl (cO, 0, .inr (.inr (.inr (.inr (fun _ => none))))))] sz) [(h0, .inr (10, [.ref h1, .ref h7, .int 0])), (h1, .inr (7, [.int 10, .int 20, .int 20, .int 20, .null, .ref h2, .ref h3, .ref h4, .ref h5, .ref h6, .int 0, .int 0, .int 0, .int 0, .int 0])), (h2, .inr (1, [.null, .null, .int 0])), (h3, .inr (1, [.null, .null, .int 0])), (h4, .inr (1, [.null, .null, .int 0])), (h5, .inr (1, [.null, .null, .int 0])), (h6, .inl (cI, 64, .inl (fun _ => 0))), (h7, .inl (cO, 0, .inr (.inr (.inr (.inr (fun _ => none))))))] t) (va_A [(h0, .inr (10, [.ref h1, .ref h7, .int 0])), (h1, .inr (7, [.int 10, .int 20, .int 20, .int 20, .null, .ref h2, .ref h3, .ref h4, .ref h5, .ref h6, .int 0, .int 0, .int 0, .int 0, .int 0])), (h2, .inr (1, [.null, .null, .int 0])), (h3, .inr (1, [.null, .null, .int 0])), (h4, .inr (1, [.null, .null, .int 0])), (h5, .inr (1, [.null, .null, .int 0])), (h6, .inl (cI, 64, .inl (fun _ => 0))), (h7, .inl (cO, 0, .inr (.inr (.inr (.inr (fun _ => none))))))] sz)) 0 0 (va_A [(h0, .inr (10, [.ref h1, .ref h7, .int 0])), (h1, .inr (7, [.int 10, .int 20, .int 20, .int 20, .null, .ref h2, .ref h3, .ref h4, .ref h5, .ref h6, .int 0, .int 0, .int 0, .int 0, .int 0])), (h2, .inr (1, [.null, .null, .int 0])), (h3, .inr (1, [.null, .null, .int 0])), (h4, .inr (1, [.null, .null, .int 0])), (h5, .inr (1, [.null, .null, .int 0])), (h6, .inl (cI, 64, .inl (fun _ => 0))), (h7, .inl (cO, 0, .inr (.inr (.inr (.inr (fun _ => none))))))] sz) := by
  refine Met.ofW (cc := cX10_bringSegments) (maxL := 3) (ret := none) (by decide) rfl ?_
  intro p e s m args below meth c s₁ B hml hv
  obtain ⟨rfl, hsz, hP, hK, hD0, hN⟩ := hv
  have hx := B.exec
  have hb := B.bytes
  have hr := B.returns
  have hts := atoms_spec (ws := (wa yX10_bringSegments cX10_bringSegments 3 none)) B.pre
  have ha : ∀ w ∈ wsL_law, w.before _ s = true := fun w h => hts w (List.mem_cons_of_mem _ h)
  have hown : s.vm.findClass RX10 = some m.cls := findClass_of_methodNamed B.named
  have hlocks := B.notSynchronized
  subst hsz
  have hD := hD0.self (sz := s.heap.size)
  generalize hAe : va_A [(h0, .inr (10, [.ref h1, .ref h7, .int 0])), (h1, .inr (7, [.int 10, .int 20, .int 20, .int 20, .null, .ref h2, .ref h3, .ref h4, .ref h5, .ref h6, .int 0, .int 0, .int 0, .int 0, .int 0])), (h2, .inr (1, [.null, .null, .int 0])), (h3, .inr (1, [.null, .null, .int 0])), (h4, .inr (1, [.null, .null, .int 0])), (h5, .inr (1, [.null, .null, .int 0])), (h6, .inl (cI, 64, .inl (fun _ => 0))), (h7, .inl (cO, 0, .inr (.inr (.inr (.inr (fun _ => none))))))] s.heap.size = A at hD ⊢
  have hA : ∀ q : Nat, s.heap.size ≤ q → A q := fun q h => by rw [← hAe]; exact Or.inr h
  have hS : va_S A s.heap s.heap [] := va_S.rf
  have hP : va_P D vwCl [(h0, .inr (10, [.ref h1, .ref h7, .int 0])), (h1, .inr (7, [.int 10, .int 20, .int 20, .int 20, .null, .ref h2, .ref h3, .ref h4, .ref h5, .ref h6, .int 0, .int 0, .int 0, .int 0, .int 0])), (h2, .inr (1, [.null, .null, .int 0])), (h3, .inr (1, [.null, .null, .int 0])), (h4, .inr (1, [.null, .null, .int 0])), (h5, .inr (1, [.null, .null, .int 0])), (h6, .inl (cI, 64, .inl (fun _ => 0))), (h7, .inl (cO, 0, .inr (.inr (.inr (.inr (fun _ => none))))))] s.heap := hP
  have hl := lv_entry ([.ref h0]) (n := 3) (Nat.le_of_ble_eq_true rfl)
  rw [lg_entry_eq]
  generalize (lg_sl ([.ref h0]) ++ List.replicate (3 - (lg_sl ([.ref h0])).length) Slot.unset).toArray = ls at hl ⊢
  have hl : lv_has ls 3 [(0, .ref h0)] := hl
  refine lv_aload_n hx hb dX10_bringSegments_0 rfl (lv_at hl 0 rfl) ?_
  refine va_get (D := D) (ci := 10) (v := .ref h1) (C := RX10) (T := TX10) (N := 3) hx hb ha inlX10 hown hK hP 0 rfl rfl 0 (by decide) (ha _ kf_X10_10) (fun _ h9 => h9) rfl dX10_bringSegments_1 ?_
  refine va_getN (D := D) (ci := 7) (v := .ref h3) (C := RX7) (T := TX7) (N := 15) hx hb ha inlX7 hown hK hP 1 rfl rfl 6 (by decide) (va_Nw.use rfl (hN.f RX10 102 "CongestionBench$Road" "way" "LCongestionBench$Chain;" "CongestionBench" (by decide +kernel))) (fun _ h9 => h9) rfl dX10_bringSegments_4 ?_
  refine va_getN (D := D) (ci := 1) (v := .int 0) (C := RX1) (T := TX1) (N := 3) hx hb ha inlX1 hown hK hP 3 rfl rfl 2 (by decide) (va_Nw.use rfl (hN.f RX10 106 "CongestionBench$Chain" "size" "I" "CongestionBench" (by decide +kernel))) (fun _ h9 => h9) rfl dX10_bringSegments_7 ?_
  refine lv_istore_n (lv' := [(1, .int 0), (0, .ref h0)]) hx hb dX10_bringSegments_10 rfl hl (by decide) rfl (fun ls hl => ?_)
  refine lv_iload_n hx hb dX10_bringSegments_11 rfl (lv_at hl 0 rfl) ?_
  refine lv_if_le (tgt := 102) hx hb dX10_bringSegments_12 (by decide) (fun c_1 => ?_) (fun c_1 => ?_)
  rotate_left
  · exact absurd (by decide) c_1
  have hP9 := hP.sub (ws' := [(h0, .inr (10, [.ref h1, .ref h7, .int 0])), (h1, .inr (7, [.int 10, .int 20, .int 20, .int 20, .null, .ref h2, .ref h3, .ref h4, .ref h5, .ref h6, .int 0, .int 0, .int 0, .int 0, .int 0])), (h2, .inr (1, [.null, .null, .int 0])), (h3, .inr (1, [.null, .null, .int 0])), (h4, .inr (1, [.null, .null, .int 0])), (h5, .inr (1, [.null, .null, .int 0])), (h6, .inl (cI, 64, .inl (fun _ => 0))), (h7, .inl (cO, 0, .inr (.inr (.inr (.inr (fun _ => none))))))]) [0, 1, 2, 3, 4, 5, 6, 7] rfl
  have hD9 := hD.sub (ws' := [(h0, .inr (10, [.ref h1, .ref h7, .int 0])), (h1, .inr (7, [.int 10, .int 20, .int 20, .int 20, .null, .ref h2, .ref h3, .ref h4, .ref h5, .ref h6, .int 0, .int 0, .int 0, .int 0, .int 0])), (h2, .inr (1, [.null, .null, .int 0])), (h3, .inr (1, [.null, .null, .int 0])), (h4, .inr (1, [.null, .null, .int 0])), (h5, .inr (1, [.null, .null, .int 0])), (h6, .inl (cI, 64, .inl (fun _ => 0))), (h7, .inl (cO, 0, .inr (.inr (.inr (.inr (fun _ => none))))))]) [0, 1, 2, 3, 4, 5, 6, 7] (by decide) rfl
  exact W.vret hx hb hr (fun t ht hW => ⟨⟨(), rfl, trivial, ⟨by rw [ht]; exact hP9, va_K.moved hW.alike hK, hD9⟩⟩, hS.F ht⟩) hS.2.2 dX10_bringSegments_102

set_option maxHeartbeats 4000000 in
set_option maxRecDepth 100000 in
theorem c_tellWindows (l : Launch) (D : va_G) (cI cJ cZ cO : ClassId) (sz : Nat) (h0 h1 h2 h3 h4 h5 h6 h7 : Nat) : Met l yX10_tellWindowsAndAnswerLate (wa yX10_tellWindowsAndAnswerLate cX10_tellWindowsAndAnswerLate 5 none) ({ frames := 0, cells := 0, slots := 0, locals := 0 }) (va_Pc [.ref h0] (pw_s D cI cJ cZ cO sz [(h0, .inr (10, [.ref h1, .ref h7, .int 0])), (h1, .inr (7, [.int 10, .int 20, .int 20, .int 20, .null, .ref h2, .ref h3, .ref h4, .ref h5, .ref h6, .int 0, .int 0, .int 0, .int 0, .int 0])), (h2, .inr (1, [.null, .null, .int 0])), (h3, .inr (1, [.null, .null, .int 0])), (h4, .inr (1, [.null, .null, .int 0])), (h5, .inr (1, [.null, .null, .int 0])), (h6, .inl (cI, 64, .inl (fun _ => 0))), (h7, .inl (cO, 0, .inr (.inr (.inr (.inr (fun _ => none))))))])) (va_Qv (fun (_ : Unit) => True) (fun (_ : Unit) (t : State) => pw_t D cI cJ cZ cO (va_A [(h0, .inr (10, [.ref h1, .ref h7, .int 0])), (h1, .inr (7, [.int 10, .int 20, .int 20, .int 20, .null, .ref h2, .ref h3, .ref h4, .ref h5, .ref h6, .int 0, .int 0, .int 0, .int 0, .int 0])), (h2, .inr (1, [.null, .null, .int 0])), (h3, .inr (1, [.null, .null, .int 0])), (h4, .inr (1, [.null, .null, .int 0])), (h5, .inr (1, [.null, .null, .int 0])), (h6, .inl (cI, 64, .inl (fun _ => 0))), (h7, .inl (cO, 0, .inr (.inr (.inr (.inr (fun _ => none))))))] sz) [(h0, .inr (10, [.ref h1, .ref h7, .int 0])), (h1, .inr (7, [.int 10, .int 20, .int 20, .int 20, .null, .ref h2, .ref h3, .ref h4, .ref h5, .ref h6, .int 0, .int 0, .int 0, .int 0, .int 0])), (h2, .inr (1, [.null, .null, .int 0])), (h3, .inr (1, [.null, .null, .int 0])), (h4, .inr (1, [.null, .null, .int 0])), (h5, .inr (1, [.null, .null, .int 0])), (h6, .inl (cI, 64, .inl (fun _ => 0))), (h7, .inl (cO, 0, .inr (.inr (.inr (.inr (fun _ => none))))))] t) (va_A [(h0, .inr (10, [.ref h1, .ref h7, .int 0])), (h1, .inr (7, [.int 10, .int 20, .int 20, .int 20, .null, .ref h2, .ref h3, .ref h4, .ref h5, .ref h6, .int 0, .int 0, .int 0, .int 0, .int 0])), (h2, .inr (1, [.null, .null, .int 0])), (h3, .inr (1, [.null, .null, .int 0])), (h4, .inr (1, [.null, .null, .int 0])), (h5, .inr (1, [.null, .null, .int 0])), (h6, .inl (cI, 64, .inl (fun _ => 0))), (h7, .inl (cO, 0, .inr (.inr (.inr (.inr (fun _ => none))))))] sz)) 0 0 (va_A [(h0, .inr (10, [.ref h1, .ref h7, .int 0])), (h1, .inr (7, [.int 10, .int 20, .int 20, .int 20, .null, .ref h2, .ref h3, .ref h4, .ref h5, .ref h6, .int 0, .int 0, .int 0, .int 0, .int 0])), (h2, .inr (1, [.null, .null, .int 0])), (h3, .inr (1, [.null, .null, .int 0])), (h4, .inr (1, [.null, .null, .int 0])), (h5, .inr (1, [.null, .null, .int 0])), (h6, .inl (cI, 64, .inl (fun _ => 0))), (h7, .inl (cO, 0, .inr (.inr (.inr (.inr (fun _ => none))))))] sz) := by
  refine Met.ofW (cc := cX10_tellWindowsAndAnswerLate) (maxL := 5) (ret := none) (by decide) rfl ?_
  intro p e s m args below meth c s₁ B hml hv
  obtain ⟨rfl, hsz, hP, hK, hD0, hN⟩ := hv
  have hx := B.exec
  have hb := B.bytes
  have hr := B.returns
  have hts := atoms_spec (ws := (wa yX10_tellWindowsAndAnswerLate cX10_tellWindowsAndAnswerLate 5 none)) B.pre
  have ha : ∀ w ∈ wsL_law, w.before _ s = true := fun w h => hts w (List.mem_cons_of_mem _ h)
  have hown : s.vm.findClass RX10 = some m.cls := findClass_of_methodNamed B.named
  have hlocks := B.notSynchronized
  subst hsz
  have hD := hD0.self (sz := s.heap.size)
  generalize hAe : va_A [(h0, .inr (10, [.ref h1, .ref h7, .int 0])), (h1, .inr (7, [.int 10, .int 20, .int 20, .int 20, .null, .ref h2, .ref h3, .ref h4, .ref h5, .ref h6, .int 0, .int 0, .int 0, .int 0, .int 0])), (h2, .inr (1, [.null, .null, .int 0])), (h3, .inr (1, [.null, .null, .int 0])), (h4, .inr (1, [.null, .null, .int 0])), (h5, .inr (1, [.null, .null, .int 0])), (h6, .inl (cI, 64, .inl (fun _ => 0))), (h7, .inl (cO, 0, .inr (.inr (.inr (.inr (fun _ => none))))))] s.heap.size = A at hD ⊢
  have hA : ∀ q : Nat, s.heap.size ≤ q → A q := fun q h => by rw [← hAe]; exact Or.inr h
  have hS : va_S A s.heap s.heap [] := va_S.rf
  have hP : va_P D vwCl [(h0, .inr (10, [.ref h1, .ref h7, .int 0])), (h1, .inr (7, [.int 10, .int 20, .int 20, .int 20, .null, .ref h2, .ref h3, .ref h4, .ref h5, .ref h6, .int 0, .int 0, .int 0, .int 0, .int 0])), (h2, .inr (1, [.null, .null, .int 0])), (h3, .inr (1, [.null, .null, .int 0])), (h4, .inr (1, [.null, .null, .int 0])), (h5, .inr (1, [.null, .null, .int 0])), (h6, .inl (cI, 64, .inl (fun _ => 0))), (h7, .inl (cO, 0, .inr (.inr (.inr (.inr (fun _ => none))))))] s.heap := hP
  have hl := lv_entry ([.ref h0]) (n := 5) (Nat.le_of_ble_eq_true rfl)
  rw [lg_entry_eq]
  generalize (lg_sl ([.ref h0]) ++ List.replicate (5 - (lg_sl ([.ref h0])).length) Slot.unset).toArray = ls at hl ⊢
  have hl : lv_has ls 5 [(0, .ref h0)] := hl
  refine lv_aload_n hx hb dX10_tellWindowsAndAnswerLate_0 rfl (lv_at hl 0 rfl) ?_
  refine va_get (D := D) (ci := 10) (v := .ref h7) (C := RX10) (T := TX10) (N := 3) hx hb ha inlX10 hown hK hP 0 rfl rfl 1 (by decide) (ha _ kf_X10_18) (fun _ h9 => h9) rfl dX10_tellWindowsAndAnswerLate_1 ?_
  refine lv_astore_n (lv' := [(1, .ref h7), (0, .ref h0)]) hx hb dX10_tellWindowsAndAnswerLate_4 rfl hl (by decide) rfl (fun ls hl => ?_)
  refine lv_aload_n hx hb dX10_tellWindowsAndAnswerLate_5 rfl (lv_at hl 0 rfl) ?_
  refine va_alen hx hb hK hP 7 3 (v := 0) rfl rfl (by decide) dX10_tellWindowsAndAnswerLate_6 ?_
  refine lv_istore_n (lv' := [(2, .int 0), (1, .ref h7), (0, .ref h0)]) hx hb dX10_tellWindowsAndAnswerLate_7 rfl hl (by decide) rfl (fun ls hl => ?_)
  refine lv_iconst (v := 0) hx hb dX10_tellWindowsAndAnswerLate_8 (by decide) ?_
  refine lv_istore_n (lv' := [(3, .int 0), (2, .int 0), (1, .ref h7), (0, .ref h0)]) hx hb dX10_tellWindowsAndAnswerLate_9 rfl hl (by decide) rfl (fun ls hl => ?_)
  refine lv_iload_n hx hb dX10_tellWindowsAndAnswerLate_10 rfl (lv_at hl 0 rfl) ?_
  refine lv_iload_n hx hb dX10_tellWindowsAndAnswerLate_11 rfl (lv_at hl 1 rfl) ?_
  refine lv_icmp_ge (tgt := 42) hx hb dX10_tellWindowsAndAnswerLate_12 (by decide) (fun c_1 => ?_) (fun c_1 => ?_)
  rotate_left
  · exact absurd (by decide) c_1
  refine lv_aload_n hx hb dX10_tellWindowsAndAnswerLate_42 rfl (lv_at hl 3 rfl) ?_
  refine va_get (D := D) (ci := 10) (v := .ref h7) (C := RX10) (T := TX10) (N := 3) hx hb ha inlX10 hown hK hP 0 rfl rfl 1 (by decide) (ha _ kf_X10_18) (fun _ h9 => h9) rfl dX10_tellWindowsAndAnswerLate_43 ?_
  refine lv_astore_n (lv' := [(1, .ref h7), (3, .int 0), (2, .int 0), (0, .ref h0)]) hx hb dX10_tellWindowsAndAnswerLate_46 rfl hl (by decide) rfl (fun ls hl => ?_)
  refine lv_aload_n hx hb dX10_tellWindowsAndAnswerLate_47 rfl (lv_at hl 0 rfl) ?_
  refine va_alen hx hb hK hP 7 3 (v := 0) rfl rfl (by decide) dX10_tellWindowsAndAnswerLate_48 ?_
  refine lv_istore_n (lv' := [(2, .int 0), (1, .ref h7), (3, .int 0), (0, .ref h0)]) hx hb dX10_tellWindowsAndAnswerLate_49 rfl hl (by decide) rfl (fun ls hl => ?_)
  refine lv_iconst (v := 0) hx hb dX10_tellWindowsAndAnswerLate_50 (by decide) ?_
  refine lv_istore_n (lv' := [(3, .int 0), (2, .int 0), (1, .ref h7), (0, .ref h0)]) hx hb dX10_tellWindowsAndAnswerLate_51 rfl hl (by decide) rfl (fun ls hl => ?_)
  refine lv_iload_n hx hb dX10_tellWindowsAndAnswerLate_52 rfl (lv_at hl 0 rfl) ?_
  refine lv_iload_n hx hb dX10_tellWindowsAndAnswerLate_53 rfl (lv_at hl 1 rfl) ?_
  refine lv_icmp_ge (tgt := 84) hx hb dX10_tellWindowsAndAnswerLate_54 (by decide) (fun c_2 => ?_) (fun c_2 => ?_)
  rotate_left
  · exact absurd (by decide) c_2
  have hP9 := hP.sub (ws' := [(h0, .inr (10, [.ref h1, .ref h7, .int 0])), (h1, .inr (7, [.int 10, .int 20, .int 20, .int 20, .null, .ref h2, .ref h3, .ref h4, .ref h5, .ref h6, .int 0, .int 0, .int 0, .int 0, .int 0])), (h2, .inr (1, [.null, .null, .int 0])), (h3, .inr (1, [.null, .null, .int 0])), (h4, .inr (1, [.null, .null, .int 0])), (h5, .inr (1, [.null, .null, .int 0])), (h6, .inl (cI, 64, .inl (fun _ => 0))), (h7, .inl (cO, 0, .inr (.inr (.inr (.inr (fun _ => none))))))]) [0, 1, 2, 3, 4, 5, 6, 7] rfl
  have hD9 := hD.sub (ws' := [(h0, .inr (10, [.ref h1, .ref h7, .int 0])), (h1, .inr (7, [.int 10, .int 20, .int 20, .int 20, .null, .ref h2, .ref h3, .ref h4, .ref h5, .ref h6, .int 0, .int 0, .int 0, .int 0, .int 0])), (h2, .inr (1, [.null, .null, .int 0])), (h3, .inr (1, [.null, .null, .int 0])), (h4, .inr (1, [.null, .null, .int 0])), (h5, .inr (1, [.null, .null, .int 0])), (h6, .inl (cI, 64, .inl (fun _ => 0))), (h7, .inl (cO, 0, .inr (.inr (.inr (.inr (fun _ => none))))))]) [0, 1, 2, 3, 4, 5, 6, 7] (by decide) rfl
  exact W.vret hx hb hr (fun t ht hW => ⟨⟨(), rfl, trivial, ⟨by rw [ht]; exact hP9, va_K.moved hW.alike hK, hD9⟩⟩, hS.F ht⟩) hS.2.2 dX10_tellWindowsAndAnswerLate_84

set_option maxHeartbeats 4000000 in
set_option maxRecDepth 100000 in
theorem c_bringAcks (l : Launch) (D : va_G) (cI cJ cZ cO : ClassId) (sz : Nat) (h0 h1 h2 h3 h4 h5 h6 h7 : Nat) : Met l yX10_bringAcks (wa yX10_bringAcks cX10_bringAcks 3 none) ({ frames := 0, cells := 0, slots := 0, locals := 0 }) (va_Pc [.ref h0] (pw_s D cI cJ cZ cO sz [(h0, .inr (10, [.ref h1, .ref h7, .int 0])), (h1, .inr (7, [.int 10, .int 20, .int 20, .int 20, .null, .ref h2, .ref h3, .ref h4, .ref h5, .ref h6, .int 0, .int 0, .int 0, .int 0, .int 0])), (h2, .inr (1, [.null, .null, .int 0])), (h3, .inr (1, [.null, .null, .int 0])), (h4, .inr (1, [.null, .null, .int 0])), (h5, .inr (1, [.null, .null, .int 0])), (h6, .inl (cI, 64, .inl (fun _ => 0))), (h7, .inl (cO, 0, .inr (.inr (.inr (.inr (fun _ => none))))))])) (va_Qv (fun (_ : Unit) => True) (fun (_ : Unit) (t : State) => pw_t D cI cJ cZ cO (va_A [(h0, .inr (10, [.ref h1, .ref h7, .int 0])), (h1, .inr (7, [.int 10, .int 20, .int 20, .int 20, .null, .ref h2, .ref h3, .ref h4, .ref h5, .ref h6, .int 0, .int 0, .int 0, .int 0, .int 0])), (h2, .inr (1, [.null, .null, .int 0])), (h3, .inr (1, [.null, .null, .int 0])), (h4, .inr (1, [.null, .null, .int 0])), (h5, .inr (1, [.null, .null, .int 0])), (h6, .inl (cI, 64, .inl (fun _ => 0))), (h7, .inl (cO, 0, .inr (.inr (.inr (.inr (fun _ => none))))))] sz) [(h0, .inr (10, [.ref h1, .ref h7, .int 0])), (h1, .inr (7, [.int 10, .int 20, .int 20, .int 20, .null, .ref h2, .ref h3, .ref h4, .ref h5, .ref h6, .int 0, .int 0, .int 0, .int 0, .int 0])), (h2, .inr (1, [.null, .null, .int 0])), (h3, .inr (1, [.null, .null, .int 0])), (h4, .inr (1, [.null, .null, .int 0])), (h5, .inr (1, [.null, .null, .int 0])), (h6, .inl (cI, 64, .inl (fun _ => 0))), (h7, .inl (cO, 0, .inr (.inr (.inr (.inr (fun _ => none))))))] t) (va_A [(h0, .inr (10, [.ref h1, .ref h7, .int 0])), (h1, .inr (7, [.int 10, .int 20, .int 20, .int 20, .null, .ref h2, .ref h3, .ref h4, .ref h5, .ref h6, .int 0, .int 0, .int 0, .int 0, .int 0])), (h2, .inr (1, [.null, .null, .int 0])), (h3, .inr (1, [.null, .null, .int 0])), (h4, .inr (1, [.null, .null, .int 0])), (h5, .inr (1, [.null, .null, .int 0])), (h6, .inl (cI, 64, .inl (fun _ => 0))), (h7, .inl (cO, 0, .inr (.inr (.inr (.inr (fun _ => none))))))] sz)) 0 0 (va_A [(h0, .inr (10, [.ref h1, .ref h7, .int 0])), (h1, .inr (7, [.int 10, .int 20, .int 20, .int 20, .null, .ref h2, .ref h3, .ref h4, .ref h5, .ref h6, .int 0, .int 0, .int 0, .int 0, .int 0])), (h2, .inr (1, [.null, .null, .int 0])), (h3, .inr (1, [.null, .null, .int 0])), (h4, .inr (1, [.null, .null, .int 0])), (h5, .inr (1, [.null, .null, .int 0])), (h6, .inl (cI, 64, .inl (fun _ => 0))), (h7, .inl (cO, 0, .inr (.inr (.inr (.inr (fun _ => none))))))] sz) := by
  refine Met.ofW (cc := cX10_bringAcks) (maxL := 3) (ret := none) (by decide) rfl ?_
  intro p e s m args below meth c s₁ B hml hv
  obtain ⟨rfl, hsz, hP, hK, hD0, hN⟩ := hv
  have hx := B.exec
  have hb := B.bytes
  have hr := B.returns
  have hts := atoms_spec (ws := (wa yX10_bringAcks cX10_bringAcks 3 none)) B.pre
  have ha : ∀ w ∈ wsL_law, w.before _ s = true := fun w h => hts w (List.mem_cons_of_mem _ h)
  have hown : s.vm.findClass RX10 = some m.cls := findClass_of_methodNamed B.named
  have hlocks := B.notSynchronized
  subst hsz
  have hD := hD0.self (sz := s.heap.size)
  generalize hAe : va_A [(h0, .inr (10, [.ref h1, .ref h7, .int 0])), (h1, .inr (7, [.int 10, .int 20, .int 20, .int 20, .null, .ref h2, .ref h3, .ref h4, .ref h5, .ref h6, .int 0, .int 0, .int 0, .int 0, .int 0])), (h2, .inr (1, [.null, .null, .int 0])), (h3, .inr (1, [.null, .null, .int 0])), (h4, .inr (1, [.null, .null, .int 0])), (h5, .inr (1, [.null, .null, .int 0])), (h6, .inl (cI, 64, .inl (fun _ => 0))), (h7, .inl (cO, 0, .inr (.inr (.inr (.inr (fun _ => none))))))] s.heap.size = A at hD ⊢
  have hA : ∀ q : Nat, s.heap.size ≤ q → A q := fun q h => by rw [← hAe]; exact Or.inr h
  have hS : va_S A s.heap s.heap [] := va_S.rf
  have hP : va_P D vwCl [(h0, .inr (10, [.ref h1, .ref h7, .int 0])), (h1, .inr (7, [.int 10, .int 20, .int 20, .int 20, .null, .ref h2, .ref h3, .ref h4, .ref h5, .ref h6, .int 0, .int 0, .int 0, .int 0, .int 0])), (h2, .inr (1, [.null, .null, .int 0])), (h3, .inr (1, [.null, .null, .int 0])), (h4, .inr (1, [.null, .null, .int 0])), (h5, .inr (1, [.null, .null, .int 0])), (h6, .inl (cI, 64, .inl (fun _ => 0))), (h7, .inl (cO, 0, .inr (.inr (.inr (.inr (fun _ => none))))))] s.heap := hP
  have hl := lv_entry ([.ref h0]) (n := 3) (Nat.le_of_ble_eq_true rfl)
  rw [lg_entry_eq]
  generalize (lg_sl ([.ref h0]) ++ List.replicate (3 - (lg_sl ([.ref h0])).length) Slot.unset).toArray = ls at hl ⊢
  have hl : lv_has ls 3 [(0, .ref h0)] := hl
  refine lv_aload_n hx hb dX10_bringAcks_0 rfl (lv_at hl 0 rfl) ?_
  refine va_get (D := D) (ci := 10) (v := .ref h1) (C := RX10) (T := TX10) (N := 3) hx hb ha inlX10 hown hK hP 0 rfl rfl 0 (by decide) (ha _ kf_X10_10) (fun _ h9 => h9) rfl dX10_bringAcks_1 ?_
  refine va_getN (D := D) (ci := 7) (v := .ref h4) (C := RX7) (T := TX7) (N := 15) hx hb ha inlX7 hown hK hP 1 rfl rfl 7 (by decide) (va_Nw.use rfl (hN.f RX10 140 "CongestionBench$Road" "acks" "LCongestionBench$Chain;" "CongestionBench" (by decide +kernel))) (fun _ h9 => h9) rfl dX10_bringAcks_4 ?_
  refine va_getN (D := D) (ci := 1) (v := .int 0) (C := RX1) (T := TX1) (N := 3) hx hb ha inlX1 hown hK hP 4 rfl rfl 2 (by decide) (va_Nw.use rfl (hN.f RX10 106 "CongestionBench$Chain" "size" "I" "CongestionBench" (by decide +kernel))) (fun _ h9 => h9) rfl dX10_bringAcks_7 ?_
  refine lv_istore_n (lv' := [(1, .int 0), (0, .ref h0)]) hx hb dX10_bringAcks_10 rfl hl (by decide) rfl (fun ls hl => ?_)
  refine lv_iload_n hx hb dX10_bringAcks_11 rfl (lv_at hl 0 rfl) ?_
  refine lv_if_le (tgt := 89) hx hb dX10_bringAcks_12 (by decide) (fun c_1 => ?_) (fun c_1 => ?_)
  rotate_left
  · exact absurd (by decide) c_1
  have hP9 := hP.sub (ws' := [(h0, .inr (10, [.ref h1, .ref h7, .int 0])), (h1, .inr (7, [.int 10, .int 20, .int 20, .int 20, .null, .ref h2, .ref h3, .ref h4, .ref h5, .ref h6, .int 0, .int 0, .int 0, .int 0, .int 0])), (h2, .inr (1, [.null, .null, .int 0])), (h3, .inr (1, [.null, .null, .int 0])), (h4, .inr (1, [.null, .null, .int 0])), (h5, .inr (1, [.null, .null, .int 0])), (h6, .inl (cI, 64, .inl (fun _ => 0))), (h7, .inl (cO, 0, .inr (.inr (.inr (.inr (fun _ => none))))))]) [0, 1, 2, 3, 4, 5, 6, 7] rfl
  have hD9 := hD.sub (ws' := [(h0, .inr (10, [.ref h1, .ref h7, .int 0])), (h1, .inr (7, [.int 10, .int 20, .int 20, .int 20, .null, .ref h2, .ref h3, .ref h4, .ref h5, .ref h6, .int 0, .int 0, .int 0, .int 0, .int 0])), (h2, .inr (1, [.null, .null, .int 0])), (h3, .inr (1, [.null, .null, .int 0])), (h4, .inr (1, [.null, .null, .int 0])), (h5, .inr (1, [.null, .null, .int 0])), (h6, .inl (cI, 64, .inl (fun _ => 0))), (h7, .inl (cO, 0, .inr (.inr (.inr (.inr (fun _ => none))))))]) [0, 1, 2, 3, 4, 5, 6, 7] (by decide) rfl
  exact W.vret hx hb hr (fun t ht hW => ⟨⟨(), rfl, trivial, ⟨by rw [ht]; exact hP9, va_K.moved hW.alike hK, hD9⟩⟩, hS.F ht⟩) hS.2.2 dX10_bringAcks_89

set_option maxHeartbeats 4000000 in
set_option maxRecDepth 100000 in
theorem c_nextBusy (l : Launch) (D : va_G) (cI cJ cZ cO : ClassId) (sz : Nat) (h0 h1 h2 h3 h4 h5 h6 h7 : Nat) (j : Nat) (h1j : 1 ≤ j) (hj : j ≤ 20000) : Met l yX10_nextBusyTick (wa yX10_nextBusyTick cX10_nextBusyTick 7 (some .int)) ({ frames := 2, cells := 0, slots := 0, locals := 51 }) (va_Pc [.ref h0, .int (nI j)] (pw_s D cI cJ cZ cO sz [(h0, .inr (10, [.ref h1, .ref h7, .int 0])), (h1, .inr (7, [.int 10, .int 20, .int 20, .int 20, .null, .ref h2, .ref h3, .ref h4, .ref h5, .ref h6, .int 0, .int 0, .int 0, .int 0, .int 0])), (h2, .inr (1, [.null, .null, .int 0])), (h3, .inr (1, [.null, .null, .int 0])), (h4, .inr (1, [.null, .null, .int 0])), (h5, .inr (1, [.null, .null, .int 0])), (h6, .inl (cI, 64, .inl (fun _ => 0))), (h7, .inl (cO, 0, .inr (.inr (.inr (.inr (fun _ => none))))))])) (va_Qi (fun (r : Int32) (_ : Unit) => r = nI j) (fun (_ : Unit) (t : State) => pw_t D cI cJ cZ cO (va_A [(h0, .inr (10, [.ref h1, .ref h7, .int 0])), (h1, .inr (7, [.int 10, .int 20, .int 20, .int 20, .null, .ref h2, .ref h3, .ref h4, .ref h5, .ref h6, .int 0, .int 0, .int 0, .int 0, .int 0])), (h2, .inr (1, [.null, .null, .int 0])), (h3, .inr (1, [.null, .null, .int 0])), (h4, .inr (1, [.null, .null, .int 0])), (h5, .inr (1, [.null, .null, .int 0])), (h6, .inl (cI, 64, .inl (fun _ => 0))), (h7, .inl (cO, 0, .inr (.inr (.inr (.inr (fun _ => none))))))] sz) [(h0, .inr (10, [.ref h1, .ref h7, .int 0])), (h1, .inr (7, [.int 10, .int 20, .int 20, .int 20, .null, .ref h2, .ref h3, .ref h4, .ref h5, .ref h6, .int 0, .int 0, .int 0, .int 0, .int 0])), (h2, .inr (1, [.null, .null, .int 0])), (h3, .inr (1, [.null, .null, .int 0])), (h4, .inr (1, [.null, .null, .int 0])), (h5, .inr (1, [.null, .null, .int 0])), (h6, .inl (cI, 64, .inl (fun _ => 0))), (h7, .inl (cO, 0, .inr (.inr (.inr (.inr (fun _ => none))))))] t) (va_A [(h0, .inr (10, [.ref h1, .ref h7, .int 0])), (h1, .inr (7, [.int 10, .int 20, .int 20, .int 20, .null, .ref h2, .ref h3, .ref h4, .ref h5, .ref h6, .int 0, .int 0, .int 0, .int 0, .int 0])), (h2, .inr (1, [.null, .null, .int 0])), (h3, .inr (1, [.null, .null, .int 0])), (h4, .inr (1, [.null, .null, .int 0])), (h5, .inr (1, [.null, .null, .int 0])), (h6, .inl (cI, 64, .inl (fun _ => 0))), (h7, .inl (cO, 0, .inr (.inr (.inr (.inr (fun _ => none))))))] sz)) 0 0 (va_A [(h0, .inr (10, [.ref h1, .ref h7, .int 0])), (h1, .inr (7, [.int 10, .int 20, .int 20, .int 20, .null, .ref h2, .ref h3, .ref h4, .ref h5, .ref h6, .int 0, .int 0, .int 0, .int 0, .int 0])), (h2, .inr (1, [.null, .null, .int 0])), (h3, .inr (1, [.null, .null, .int 0])), (h4, .inr (1, [.null, .null, .int 0])), (h5, .inr (1, [.null, .null, .int 0])), (h6, .inl (cI, 64, .inl (fun _ => 0))), (h7, .inl (cO, 0, .inr (.inr (.inr (.inr (fun _ => none))))))] sz) := by
  refine Met.ofW (cc := cX10_nextBusyTick) (maxL := 7) (ret := (some .int)) (by decide) rfl ?_
  intro p e s m args below meth c s₁ B hml hv
  obtain ⟨rfl, hsz, hP, hK, hD0, hN⟩ := hv
  have hx := B.exec
  have hb := B.bytes
  have hr := B.returns
  have hts := atoms_spec (ws := (wa yX10_nextBusyTick cX10_nextBusyTick 7 (some .int))) B.pre
  have ha : ∀ w ∈ wsL_law, w.before _ s = true := fun w h => hts w (List.mem_cons_of_mem _ h)
  have hown : s.vm.findClass RX10 = some m.cls := findClass_of_methodNamed B.named
  have hlocks := B.notSynchronized
  subst hsz
  have hD := hD0.self (sz := s.heap.size)
  generalize hAe : va_A [(h0, .inr (10, [.ref h1, .ref h7, .int 0])), (h1, .inr (7, [.int 10, .int 20, .int 20, .int 20, .null, .ref h2, .ref h3, .ref h4, .ref h5, .ref h6, .int 0, .int 0, .int 0, .int 0, .int 0])), (h2, .inr (1, [.null, .null, .int 0])), (h3, .inr (1, [.null, .null, .int 0])), (h4, .inr (1, [.null, .null, .int 0])), (h5, .inr (1, [.null, .null, .int 0])), (h6, .inl (cI, 64, .inl (fun _ => 0))), (h7, .inl (cO, 0, .inr (.inr (.inr (.inr (fun _ => none))))))] s.heap.size = A at hD ⊢
  have hA : ∀ q : Nat, s.heap.size ≤ q → A q := fun q h => by rw [← hAe]; exact Or.inr h
  have hS : va_S A s.heap s.heap [] := va_S.rf
  have hP : va_P D vwCl [(h0, .inr (10, [.ref h1, .ref h7, .int 0])), (h1, .inr (7, [.int 10, .int 20, .int 20, .int 20, .null, .ref h2, .ref h3, .ref h4, .ref h5, .ref h6, .int 0, .int 0, .int 0, .int 0, .int 0])), (h2, .inr (1, [.null, .null, .int 0])), (h3, .inr (1, [.null, .null, .int 0])), (h4, .inr (1, [.null, .null, .int 0])), (h5, .inr (1, [.null, .null, .int 0])), (h6, .inl (cI, 64, .inl (fun _ => 0))), (h7, .inl (cO, 0, .inr (.inr (.inr (.inr (fun _ => none))))))] s.heap := hP
  have hl := lv_entry ([.ref h0, .int (nI j)]) (n := 7) (Nat.le_of_ble_eq_true rfl)
  rw [lg_entry_eq]
  generalize (lg_sl ([.ref h0, .int (nI j)]) ++ List.replicate (7 - (lg_sl ([.ref h0, .int (nI j)])).length) Slot.unset).toArray = ls at hl ⊢
  have hl : lv_has ls 7 [(0, .ref h0), (1, .int (nI j))] := hl
  refine lv_iload_n hx hb dX10_nextBusyTick_0 rfl (lv_at hl 1 rfl) ?_
  refine lv_aload_n hx hb dX10_nextBusyTick_1 rfl (lv_at hl 0 rfl) ?_
  refine va_get (D := D) (ci := 10) (v := .ref h1) (C := RX10) (T := TX10) (N := 3) hx hb ha inlX10 hown hK hP 0 rfl rfl 0 (by decide) (ha _ kf_X10_10) (fun _ h9 => h9) rfl dX10_nextBusyTick_2 ?_
  have hPc := hP.sub (ws' := [(h1, .inr (7, [.int 10, .int 20, .int 20, .int 20, .null, .ref h2, .ref h3, .ref h4, .ref h5, .ref h6, .int 0, .int 0, .int 0, .int 0, .int 0])), (h2, .inr (1, [.null, .null, .int 0])), (h3, .inr (1, [.null, .null, .int 0])), (h4, .inr (1, [.null, .null, .int 0]))]) [1, 2, 3, 4] rfl
  have hDc := hD.sub (ws' := [(h1, .inr (7, [.int 10, .int 20, .int 20, .int 20, .null, .ref h2, .ref h3, .ref h4, .ref h5, .ref h6, .int 0, .int 0, .int 0, .int 0, .int 0])), (h2, .inr (1, [.null, .null, .int 0])), (h3, .inr (1, [.null, .null, .int 0])), (h4, .inr (1, [.null, .null, .int 0]))]) [1, 2, 3, 4] (by decide) rfl
  have hFc := va_free (wc := [(h1, .inr (7, [.int 10, .int 20, .int 20, .int 20, .null, .ref h2, .ref h3, .ref h4, .ref h5, .ref h6, .int 0, .int 0, .int 0, .int 0, .int 0])), (h2, .inr (1, [.null, .null, .int 0])), (h3, .inr (1, [.null, .null, .int 0])), (h4, .inr (1, [.null, .null, .int 0]))]) hD hS hA [1, 2, 3, 4] rfl
  refine va_calli (va_runV (As := []) (rest := [.int (nI j)]) ⟨hx, hb, hml, hown, ha⟩ (c_nextDue l D cI cJ cZ cO _ h1 h2 h3 h4 h5 h6) (cwV 0 ha (gaV kl_X10_146 km_X7_nextDue ks_X7_nextDue kz_X7 kd_X7_nextDue) rfl rfl rfl (by decide +kernel) ⟨Nat.le_of_ble_eq_true rfl, Nat.le_of_ble_eq_true rfl⟩) ⟨pw_blind, va_recv hK hPc (ci := 7) (q0 := 0) rfl rfl, fun U hU hW => ⟨rfl, pw_start hU hW hPc hK hDc hN⟩⟩ rfl rfl hl.1 rfl (lv_room (Nat.le_of_ble_eq_true rfl)) dX10_nextBusyTick_5 ⟨Nat.le_of_ble_eq_true rfl, Nat.le_of_ble_eq_true rfl⟩) hS (fun q _ h => hFc q h) hFc (fun r_1 u t H1 locs ht hvm hw hB hz1 hk1 hS => ?_)
  obtain ⟨hP1, hK1, hD1⟩ := hB
  rw [ht] at hP1
  obtain ⟨hP, hD⟩ := va_join (wr := [(h0, .inr (10, [.ref h1, .ref h7, .int 0])), (h5, .inr (1, [.null, .null, .int 0])), (h6, .inl (cI, 64, .inl (fun _ => 0))), (h7, .inl (cO, 0, .inr (.inr (.inr (.inr (fun _ => none))))))]) (w1 := [(h1, .inr (7, [.int 10, .int 20, .int 20, .int 20, .null, .ref h2, .ref h3, .ref h4, .ref h5, .ref h6, .int 0, .int 0, .int 0, .int 0, .int 0])), (h2, .inr (1, [.null, .null, .int 0])), (h3, .inr (1, [.null, .null, .int 0])), (h4, .inr (1, [.null, .null, .int 0]))]) hP hD [1, 2, 3, 4] [0, 5, 6, 7] rfl rfl (by decide) (by decide) hk1 hFc hP1 hD1
  generalize H1 = H at hP hS ⊢
  have hP : va_P D vwCl [(h0, .inr (10, [.ref h1, .ref h7, .int 0])), (h5, .inr (1, [.null, .null, .int 0])), (h6, .inl (cI, 64, .inl (fun _ => 0))), (h7, .inl (cO, 0, .inr (.inr (.inr (.inr (fun _ => none)))))), (h1, .inr (7, [.int 10, .int 20, .int 20, .int 20, .null, .ref h2, .ref h3, .ref h4, .ref h5, .ref h6, .int 0, .int 0, .int 0, .int 0, .int 0])), (h2, .inr (1, [.null, .null, .int 0])), (h3, .inr (1, [.null, .null, .int 0])), (h4, .inr (1, [.null, .null, .int 0]))] H := hP
  have hD : va_D A [(h0, .inr (10, [.ref h1, .ref h7, .int 0])), (h5, .inr (1, [.null, .null, .int 0])), (h6, .inl (cI, 64, .inl (fun _ => 0))), (h7, .inl (cO, 0, .inr (.inr (.inr (.inr (fun _ => none)))))), (h1, .inr (7, [.int 10, .int 20, .int 20, .int 20, .null, .ref h2, .ref h3, .ref h4, .ref h5, .ref h6, .int 0, .int 0, .int 0, .int 0, .int 0])), (h2, .inr (1, [.null, .null, .int 0])), (h3, .inr (1, [.null, .null, .int 0])), (h4, .inr (1, [.null, .null, .int 0]))] := hD
  refine W.widen (k := 0) (n := 0) (Nat.le_of_ble_eq_true rfl) (Nat.le_of_ble_eq_true rfl) ?_
  obtain rfl : r_1 = 2147483647 := hw
  refine va_mmin hx hb (hml.trans hl.1.symm) hown (ha _ kl_X10_150) (ha _ kt_min) (ha _ kz_J9) (ha _ kd_min) (Nat.le_of_ble_eq_true rfl) (Nat.le_of_ble_eq_true rfl) (Nat.le_of_ble_eq_true rfl) (Nat.le_of_ble_eq_true rfl) dX10_nextBusyTick_8 ?_
  refine lv_topi (fun v_2 ev_2 => ?_)
  obtain rfl : v_2 = nI j := ev_2.trans (if_neg (by rw [show (2147483647 : Int32) = nI 2147483647 by decide]; exact nI_nlt (by omega) (by omega)))
  refine lv_istore_n (lv' := [(2, .int (nI j)), (0, .ref h0), (1, .int (nI j))]) hx hb dX10_nextBusyTick_11 rfl hl (by decide) rfl (fun ls hl => ?_)
  refine lv_aload_n hx hb dX10_nextBusyTick_12 rfl (lv_at hl 1 rfl) ?_
  refine va_get (D := D) (ci := 10) (v := .ref h7) (C := RX10) (T := TX10) (N := 3) hx hb ha inlX10 hown hK hP 0 rfl rfl 1 (by decide) (ha _ kf_X10_18) (fun _ h9 => h9) rfl dX10_nextBusyTick_13 ?_
  refine lv_astore_n (lv' := [(3, .ref h7), (2, .int (nI j)), (0, .ref h0), (1, .int (nI j))]) hx hb dX10_nextBusyTick_16 rfl hl (by decide) rfl (fun ls hl => ?_)
  refine lv_aload_n hx hb dX10_nextBusyTick_17 rfl (lv_at hl 0 rfl) ?_
  refine va_alen hx hb hK hP 3 3 (v := 0) rfl rfl (by decide) dX10_nextBusyTick_18 ?_
  refine lv_istore (lv' := [(4, .int 0), (3, .ref h7), (2, .int (nI j)), (0, .ref h0), (1, .int (nI j))]) hx hb dX10_nextBusyTick_19 hl (by decide) rfl (fun ls hl => ?_)
  refine lv_iconst (v := 0) hx hb dX10_nextBusyTick_21 (by decide) ?_
  refine lv_istore (lv' := [(5, .int 0), (4, .int 0), (3, .ref h7), (2, .int (nI j)), (0, .ref h0), (1, .int (nI j))]) hx hb dX10_nextBusyTick_22 hl (by decide) rfl (fun ls hl => ?_)
  refine lv_iload hx hb dX10_nextBusyTick_24 (lv_at hl 0 rfl) ?_
  refine lv_iload hx hb dX10_nextBusyTick_26 (lv_at hl 1 rfl) ?_
  refine lv_icmp_ge (tgt := 78) hx hb dX10_nextBusyTick_28 (by decide) (fun c_3 => ?_) (fun c_3 => ?_)
  rotate_left
  · exact absurd (by decide) c_3
  refine lv_aload_n hx hb dX10_nextBusyTick_78 rfl (lv_at hl 4 rfl) ?_
  refine va_get (D := D) (ci := 10) (v := .int 0) (C := RX10) (T := TX10) (N := 3) hx hb ha inlX10 hown hK hP 0 rfl rfl 2 (by decide) (ha _ kf_X10_60) (fun _ h9 => h9) rfl dX10_nextBusyTick_79 ?_
  refine lv_iconst (v := 1) hx hb dX10_nextBusyTick_82 (by decide) ?_
  refine lv_iadd hx hb dX10_nextBusyTick_83 ?_
  refine lv_topi (fun v_4 ev_4 => ?_)
  obtain rfl : v_4 = 1 := ev_4.trans (by decide)
  refine lv_iload_n hx hb dX10_nextBusyTick_84 rfl (lv_at hl 3 rfl) ?_
  refine va_mmax hx hb (hml.trans hl.1.symm) hown (ha _ kl_X10_171) (ha _ kt_max) (ha _ kz_J9) (ha _ kd_max) (Nat.le_of_ble_eq_true rfl) (Nat.le_of_ble_eq_true rfl) (Nat.le_of_ble_eq_true rfl) (Nat.le_of_ble_eq_true rfl) dX10_nextBusyTick_85 ?_
  refine lv_topi (fun v_5 ev_5 => ?_)
  obtain rfl : v_5 = nI j := ev_5.trans (nI_max1 h1j hj)
  have hP9 := hP.sub (ws' := [(h0, .inr (10, [.ref h1, .ref h7, .int 0])), (h1, .inr (7, [.int 10, .int 20, .int 20, .int 20, .null, .ref h2, .ref h3, .ref h4, .ref h5, .ref h6, .int 0, .int 0, .int 0, .int 0, .int 0])), (h2, .inr (1, [.null, .null, .int 0])), (h3, .inr (1, [.null, .null, .int 0])), (h4, .inr (1, [.null, .null, .int 0])), (h5, .inr (1, [.null, .null, .int 0])), (h6, .inl (cI, 64, .inl (fun _ => 0))), (h7, .inl (cO, 0, .inr (.inr (.inr (.inr (fun _ => none))))))]) [0, 4, 5, 6, 7, 1, 2, 3] rfl
  have hD9 := hD.sub (ws' := [(h0, .inr (10, [.ref h1, .ref h7, .int 0])), (h1, .inr (7, [.int 10, .int 20, .int 20, .int 20, .null, .ref h2, .ref h3, .ref h4, .ref h5, .ref h6, .int 0, .int 0, .int 0, .int 0, .int 0])), (h2, .inr (1, [.null, .null, .int 0])), (h3, .inr (1, [.null, .null, .int 0])), (h4, .inr (1, [.null, .null, .int 0])), (h5, .inr (1, [.null, .null, .int 0])), (h6, .inl (cI, 64, .inl (fun _ => 0))), (h7, .inl (cO, 0, .inr (.inr (.inr (.inr (fun _ => none))))))]) [0, 4, 5, 6, 7, 1, 2, 3] (by decide) rfl
  exact W.iret (v := (nI j)) hx hb hr (fun t ht hW => ⟨⟨(nI j), (), rfl, rfl, ⟨by rw [ht]; exact hP9, va_K.moved hW.alike hK, hD9⟩⟩, hS.F ht⟩) hS.2.2 dX10_nextBusyTick_88

set_option maxHeartbeats 4000000 in
set_option maxRecDepth 100000 in
theorem c_run (l : Launch) (D : va_G) (cI cJ cZ cO : ClassId) (sz : Nat) (h0 h1 h2 h3 h4 h5 h6 h7 : Nat) (t : Int32) : Met l yX10_run (wa yX10_run cX10_run 9 (some .int)) ({ frames := 3, cells := 0, slots := 0, locals := 77 }) (va_Pc [.ref h0, .int t] (pw_s D cI cJ cZ cO sz [(h0, .inr (10, [.ref h1, .ref h7, .int 0])), (h1, .inr (7, [.int 10, .int 20, .int 20, .int 20, .null, .ref h2, .ref h3, .ref h4, .ref h5, .ref h6, .int 0, .int 0, .int 0, .int 0, .int 0])), (h2, .inr (1, [.null, .null, .int 0])), (h3, .inr (1, [.null, .null, .int 0])), (h4, .inr (1, [.null, .null, .int 0])), (h5, .inr (1, [.null, .null, .int 0])), (h6, .inl (cI, 64, .inl (fun _ => 0))), (h7, .inl (cO, 0, .inr (.inr (.inr (.inr (fun _ => none))))))])) (va_Qi (fun (r : Int32) (_ : Unit) => r = rn t) (fun (_ : Unit) (t : State) => pw_t D cI cJ cZ cO (va_A [(h0, .inr (10, [.ref h1, .ref h7, .int 0])), (h1, .inr (7, [.int 10, .int 20, .int 20, .int 20, .null, .ref h2, .ref h3, .ref h4, .ref h5, .ref h6, .int 0, .int 0, .int 0, .int 0, .int 0])), (h2, .inr (1, [.null, .null, .int 0])), (h3, .inr (1, [.null, .null, .int 0])), (h4, .inr (1, [.null, .null, .int 0])), (h5, .inr (1, [.null, .null, .int 0])), (h6, .inl (cI, 64, .inl (fun _ => 0))), (h7, .inl (cO, 0, .inr (.inr (.inr (.inr (fun _ => none))))))] sz) [] t) (va_A [(h0, .inr (10, [.ref h1, .ref h7, .int 0])), (h1, .inr (7, [.int 10, .int 20, .int 20, .int 20, .null, .ref h2, .ref h3, .ref h4, .ref h5, .ref h6, .int 0, .int 0, .int 0, .int 0, .int 0])), (h2, .inr (1, [.null, .null, .int 0])), (h3, .inr (1, [.null, .null, .int 0])), (h4, .inr (1, [.null, .null, .int 0])), (h5, .inr (1, [.null, .null, .int 0])), (h6, .inl (cI, 64, .inl (fun _ => 0))), (h7, .inl (cO, 0, .inr (.inr (.inr (.inr (fun _ => none))))))] sz)) 0 0 (va_A [(h0, .inr (10, [.ref h1, .ref h7, .int 0])), (h1, .inr (7, [.int 10, .int 20, .int 20, .int 20, .null, .ref h2, .ref h3, .ref h4, .ref h5, .ref h6, .int 0, .int 0, .int 0, .int 0, .int 0])), (h2, .inr (1, [.null, .null, .int 0])), (h3, .inr (1, [.null, .null, .int 0])), (h4, .inr (1, [.null, .null, .int 0])), (h5, .inr (1, [.null, .null, .int 0])), (h6, .inl (cI, 64, .inl (fun _ => 0))), (h7, .inl (cO, 0, .inr (.inr (.inr (.inr (fun _ => none))))))] sz) := by
  refine Met.ofW (cc := cX10_run) (maxL := 9) (ret := (some .int)) (by decide) rfl ?_
  intro p e s m args below meth c s₁ B hml hv
  obtain ⟨rfl, hsz, hP, hK, hD0, hN⟩ := hv
  have hx := B.exec
  have hb := B.bytes
  have hr := B.returns
  have hts := atoms_spec (ws := (wa yX10_run cX10_run 9 (some .int))) B.pre
  have ha : ∀ w ∈ wsL_law, w.before _ s = true := fun w h => hts w (List.mem_cons_of_mem _ h)
  have hown : s.vm.findClass RX10 = some m.cls := findClass_of_methodNamed B.named
  have hlocks := B.notSynchronized
  subst hsz
  have hD := hD0.self (sz := s.heap.size)
  generalize hAe : va_A [(h0, .inr (10, [.ref h1, .ref h7, .int 0])), (h1, .inr (7, [.int 10, .int 20, .int 20, .int 20, .null, .ref h2, .ref h3, .ref h4, .ref h5, .ref h6, .int 0, .int 0, .int 0, .int 0, .int 0])), (h2, .inr (1, [.null, .null, .int 0])), (h3, .inr (1, [.null, .null, .int 0])), (h4, .inr (1, [.null, .null, .int 0])), (h5, .inr (1, [.null, .null, .int 0])), (h6, .inl (cI, 64, .inl (fun _ => 0))), (h7, .inl (cO, 0, .inr (.inr (.inr (.inr (fun _ => none))))))] s.heap.size = A at hD ⊢
  have hA : ∀ q : Nat, s.heap.size ≤ q → A q := fun q h => by rw [← hAe]; exact Or.inr h
  have hS : va_S A s.heap s.heap [] := va_S.rf
  have hP : va_P D vwCl [(h0, .inr (10, [.ref h1, .ref h7, .int 0])), (h1, .inr (7, [.int 10, .int 20, .int 20, .int 20, .null, .ref h2, .ref h3, .ref h4, .ref h5, .ref h6, .int 0, .int 0, .int 0, .int 0, .int 0])), (h2, .inr (1, [.null, .null, .int 0])), (h3, .inr (1, [.null, .null, .int 0])), (h4, .inr (1, [.null, .null, .int 0])), (h5, .inr (1, [.null, .null, .int 0])), (h6, .inl (cI, 64, .inl (fun _ => 0))), (h7, .inl (cO, 0, .inr (.inr (.inr (.inr (fun _ => none))))))] s.heap := hP
  have hl := lv_entry ([.ref h0, .int t]) (n := 9) (Nat.le_of_ble_eq_true rfl)
  rw [lg_entry_eq]
  generalize (lg_sl ([.ref h0, .int t]) ++ List.replicate (9 - (lg_sl ([.ref h0, .int t])).length) Slot.unset).toArray = ls at hl ⊢
  have hl : lv_has ls 9 [(0, .ref h0), (1, .int t)] := hl
  refine lv_iload_n hx hb dX10_run_0 rfl (lv_at hl 1 rfl) ?_
  refine lv_iconst (v := 1) hx hb dX10_run_1 (by decide) ?_
  refine lv_sipush (v := 20000) hx hb dX10_run_2 (by decide) ?_
  have hPc := hP.sub (ws' := []) [] rfl
  have hDc := hD.sub (ws' := []) [] (by decide) rfl
  have hFc := va_free (wc := []) hD hS hA [] rfl
  refine va_calli (va_runS (As := [.int t, .int 1, .int 20000]) (rest := []) ⟨hx, hb, hml, hown, ha⟩ (c_within l D cI cJ cZ cO _ t 1 20000) (va_cwS 3 ha (gaS kl_X10_22 kt_X10_within kz_X10 kd_X10_within) rfl rfl rfl (by decide +kernel) ⟨Nat.le_of_ble_eq_true rfl, Nat.le_of_ble_eq_true rfl⟩) ⟨pw_blind, fun U hU hW => ⟨rfl, pw_start hU hW hPc hK hDc hN⟩⟩ rfl rfl hl.1 rfl (lv_room (Nat.le_of_ble_eq_true rfl)) dX10_run_5 ⟨Nat.le_of_ble_eq_true rfl, Nat.le_of_ble_eq_true rfl⟩) hS (fun q _ h => hFc q h) hFc (fun r_1 u t H1 locs ht hvm hw hB hz1 hk1 hS => ?_)
  obtain ⟨hP1, hK1, hD1⟩ := hB
  rw [ht] at hP1
  obtain ⟨hP, hD⟩ := va_join (wr := [(h0, .inr (10, [.ref h1, .ref h7, .int 0])), (h1, .inr (7, [.int 10, .int 20, .int 20, .int 20, .null, .ref h2, .ref h3, .ref h4, .ref h5, .ref h6, .int 0, .int 0, .int 0, .int 0, .int 0])), (h2, .inr (1, [.null, .null, .int 0])), (h3, .inr (1, [.null, .null, .int 0])), (h4, .inr (1, [.null, .null, .int 0])), (h5, .inr (1, [.null, .null, .int 0])), (h6, .inl (cI, 64, .inl (fun _ => 0))), (h7, .inl (cO, 0, .inr (.inr (.inr (.inr (fun _ => none))))))]) (w1 := []) hP hD [] [0, 1, 2, 3, 4, 5, 6, 7] rfl rfl (by decide) (by decide) hk1 hFc hP1 hD1
  generalize H1 = H at hP hS ⊢
  have hP : va_P D vwCl [(h0, .inr (10, [.ref h1, .ref h7, .int 0])), (h1, .inr (7, [.int 10, .int 20, .int 20, .int 20, .null, .ref h2, .ref h3, .ref h4, .ref h5, .ref h6, .int 0, .int 0, .int 0, .int 0, .int 0])), (h2, .inr (1, [.null, .null, .int 0])), (h3, .inr (1, [.null, .null, .int 0])), (h4, .inr (1, [.null, .null, .int 0])), (h5, .inr (1, [.null, .null, .int 0])), (h6, .inl (cI, 64, .inl (fun _ => 0))), (h7, .inl (cO, 0, .inr (.inr (.inr (.inr (fun _ => none))))))] H := hP
  have hD : va_D A [(h0, .inr (10, [.ref h1, .ref h7, .int 0])), (h1, .inr (7, [.int 10, .int 20, .int 20, .int 20, .null, .ref h2, .ref h3, .ref h4, .ref h5, .ref h6, .int 0, .int 0, .int 0, .int 0, .int 0])), (h2, .inr (1, [.null, .null, .int 0])), (h3, .inr (1, [.null, .null, .int 0])), (h4, .inr (1, [.null, .null, .int 0])), (h5, .inr (1, [.null, .null, .int 0])), (h6, .inl (cI, 64, .inl (fun _ => 0))), (h7, .inl (cO, 0, .inr (.inr (.inr (.inr (fun _ => none))))))] := hD
  refine W.widen (k := 0) (n := 0) (Nat.le_of_ble_eq_true rfl) (Nat.le_of_ble_eq_true rfl) ?_
  have hr_1 := hw
  subst hr_1
  refine lv_if_eq (tgt := 22) hx hb dX10_run_8 (by decide) (fun c_2 => ?_) (fun c_2 => ?_)
  · refine lv_iconst (v := (-1)) hx hb dX10_run_22 (by decide) ?_
    exact W.iret (v := (-1)) hx hb hr (fun t ht hW => ⟨⟨(-1), (), rfl, by simp [rn, c_2], ⟨pw_P0, va_K.moved hW.alike hK, pw_D0⟩⟩, hS.F ht⟩) hS.2.2 dX10_run_23
  · obtain ⟨j, h1j, hj, rfl⟩ := wi_run c_2
    have hl : lv_has ls 9 [(0, .ref h0), (1, .int (nI j))] := hl
    refine lv_aload_n hx hb dX10_run_11 rfl (lv_at hl 0 rfl) ?_
    refine va_get (D := D) (ci := 10) (v := .int 0) (C := RX10) (T := TX10) (N := 3) hx hb ha inlX10 hown hK hP 0 rfl rfl 2 (by decide) (ha _ kf_X10_60) (fun _ h9 => h9) rfl dX10_run_12 ?_
    refine lv_ldc (v := 100000000) hx hb hown (ha _ kk_X10_64) dX10_run_15 ?_
    refine lv_iload_n hx hb dX10_run_17 rfl (lv_at hl 1 rfl) ?_
    refine lv_isub hx hb dX10_run_18 ?_
    refine lv_icmp_le (tgt := 24) hx hb dX10_run_19 (by decide) (fun c_3 => ?_) (fun c_3 => ?_)
    rotate_left
    · exact absurd (by rw [show (100000000 : Int32) = nI 100000000 by decide, pk_sub (by omega)]; exact nI_pos' (by omega)) c_3
    refine lv_aload_n hx hb dX10_run_24 rfl (lv_at hl 0 rfl) ?_
    refine va_get (D := D) (ci := 10) (v := .ref h1) (C := RX10) (T := TX10) (N := 3) hx hb ha inlX10 hown hK hP 0 rfl rfl 0 (by decide) (ha _ kf_X10_10) (fun _ h9 => h9) rfl dX10_run_25 ?_
    refine va_getN (D := D) (ci := 7) (v := .int 0) (C := RX7) (T := TX7) (N := 15) hx hb ha inlX7 hown hK hP 1 rfl rfl 11 (by decide) (va_Nw.use rfl (hN.f RX10 65 "CongestionBench$Road" "sent" "I" "CongestionBench" (by decide +kernel))) (fun _ h9 => h9) rfl dX10_run_28 ?_
    refine lv_istore_n (lv' := [(2, .int 0), (0, .ref h0), (1, .int (nI j))]) hx hb dX10_run_31 rfl hl (by decide) rfl (fun ls hl => ?_)
    refine lv_aload_n hx hb dX10_run_32 rfl (lv_at hl 1 rfl) ?_
    refine va_get (D := D) (ci := 10) (v := .int 0) (C := RX10) (T := TX10) (N := 3) hx hb ha inlX10 hown hK hP 0 rfl rfl 2 (by decide) (ha _ kf_X10_60) (fun _ h9 => h9) rfl dX10_run_33 ?_
    refine lv_iload_n hx hb dX10_run_36 rfl (lv_at hl 2 rfl) ?_
    refine lv_iadd hx hb dX10_run_37 ?_
    refine lv_topi (fun v_4 ev_4 => ?_)
    obtain rfl : v_4 = nI j := ev_4.trans (by rw [← nI_0, nI_add, Nat.zero_add])
    refine lv_istore_n (lv' := [(3, .int (nI j)), (2, .int 0), (0, .ref h0), (1, .int (nI j))]) hx hb dX10_run_38 rfl hl (by decide) rfl (fun ls hl => ?_)
    refine lv_iconst (v := 0) hx hb dX10_run_39 (by decide) ?_
    refine lv_istore (lv' := [(4, .int 0), (3, .int (nI j)), (2, .int 0), (0, .ref h0), (1, .int (nI j))]) hx hb dX10_run_40 hl (by decide) rfl (fun ls hl => ?_)
    refine lv_iload hx hb dX10_run_42 (lv_at hl 0 rfl) ?_
    refine lv_iload_n hx hb dX10_run_44 rfl (lv_at hl 4 rfl) ?_
    refine lv_icmp_ge (tgt := 194) hx hb dX10_run_45 (by decide) (fun c_5 => ?_) (fun c_5 => ?_)
    · exact absurd c_5 (by rw [← nI_0]; exact nI_ge h1j (by omega))
    refine lv_aload_n hx hb dX10_run_48 rfl (lv_at hl 3 rfl) ?_
    refine va_get (D := D) (ci := 10) (v := .int 0) (C := RX10) (T := TX10) (N := 3) hx hb ha inlX10 hown hK hP 0 rfl rfl 2 (by decide) (ha _ kf_X10_60) (fun _ h9 => h9) rfl dX10_run_49 ?_
    refine lv_iload_n hx hb dX10_run_52 rfl (lv_at hl 1 rfl) ?_
    refine lv_icmp_ge (tgt := 194) hx hb dX10_run_53 (by decide) (fun c_6 => ?_) (fun c_6 => ?_)
    · exact absurd c_6 (by rw [← nI_0]; exact nI_ge h1j (by omega))
    refine lv_aload_n hx hb dX10_run_56 rfl (lv_at hl 3 rfl) ?_
    refine va_get (D := D) (ci := 10) (v := .ref h1) (C := RX10) (T := TX10) (N := 3) hx hb ha inlX10 hown hK hP 0 rfl rfl 0 (by decide) (ha _ kf_X10_10) (fun _ h9 => h9) rfl dX10_run_57 ?_
    refine lv_aload_n hx hb dX10_run_60 rfl (lv_at hl 3 rfl) ?_
    refine va_get (D := D) (ci := 10) (v := .int 0) (C := RX10) (T := TX10) (N := 3) hx hb ha inlX10 hown hK hP 0 rfl rfl 2 (by decide) (ha _ kf_X10_60) (fun _ h9 => h9) rfl dX10_run_61 ?_
    have hPc := hP.sub (ws' := [(h1, .inr (7, [.int 10, .int 20, .int 20, .int 20, .null, .ref h2, .ref h3, .ref h4, .ref h5, .ref h6, .int 0, .int 0, .int 0, .int 0, .int 0]))]) [1] rfl
    have hDc := hD.sub (ws' := [(h1, .inr (7, [.int 10, .int 20, .int 20, .int 20, .null, .ref h2, .ref h3, .ref h4, .ref h5, .ref h6, .int 0, .int 0, .int 0, .int 0, .int 0]))]) [1] (by decide) rfl
    have hFc := va_free (wc := [(h1, .inr (7, [.int 10, .int 20, .int 20, .int 20, .null, .ref h2, .ref h3, .ref h4, .ref h5, .ref h6, .int 0, .int 0, .int 0, .int 0, .int 0]))]) hD hS hA [1] rfl
    refine va_callv (va_runV (As := [.int 0]) (rest := []) ⟨hx, hb, hml, hown, ha⟩ (c_moveLink l D cI cJ cZ cO _ h1 h2 h3 h4 h5 h6 0) (cwV 1 ha (gaV kl_X10_68 km_X7_moveLink ks_X7_moveLink kz_X7 kd_X7_moveLink) rfl rfl rfl (by decide +kernel) ⟨Nat.le_of_ble_eq_true rfl, Nat.le_of_ble_eq_true rfl⟩) ⟨pw_blind, va_recv hK hPc (ci := 7) (q0 := 0) rfl rfl, fun U hU hW => ⟨rfl, pw_start hU hW hPc hK hDc hN⟩⟩ rfl rfl hl.1 rfl (lv_room (Nat.le_of_ble_eq_true rfl)) dX10_run_64 ⟨Nat.le_of_ble_eq_true rfl, Nat.le_of_ble_eq_true rfl⟩) hS (fun q _ h => hFc q h) hFc (fun u t H1 locs ht hvm hw hB hz1 hk1 hS => ?_)
    obtain ⟨hP1, hK1, hD1⟩ := hB
    rw [ht] at hP1
    obtain ⟨hP, hD⟩ := va_join (wr := [(h0, .inr (10, [.ref h1, .ref h7, .int 0])), (h2, .inr (1, [.null, .null, .int 0])), (h3, .inr (1, [.null, .null, .int 0])), (h4, .inr (1, [.null, .null, .int 0])), (h5, .inr (1, [.null, .null, .int 0])), (h6, .inl (cI, 64, .inl (fun _ => 0))), (h7, .inl (cO, 0, .inr (.inr (.inr (.inr (fun _ => none))))))]) (w1 := [(h1, .inr (7, [.int 10, .int 20, .int 20, .int 20, .null, .ref h2, .ref h3, .ref h4, .ref h5, .ref h6, .int 0, .int 0, .int 0, .int 0, .int 0]))]) hP hD [1] [0, 2, 3, 4, 5, 6, 7] rfl rfl (by decide) (by decide) hk1 hFc hP1 hD1
    generalize H1 = H at hP hS ⊢
    have hP : va_P D vwCl [(h0, .inr (10, [.ref h1, .ref h7, .int 0])), (h2, .inr (1, [.null, .null, .int 0])), (h3, .inr (1, [.null, .null, .int 0])), (h4, .inr (1, [.null, .null, .int 0])), (h5, .inr (1, [.null, .null, .int 0])), (h6, .inl (cI, 64, .inl (fun _ => 0))), (h7, .inl (cO, 0, .inr (.inr (.inr (.inr (fun _ => none)))))), (h1, .inr (7, [.int 10, .int 20, .int 20, .int 20, .null, .ref h2, .ref h3, .ref h4, .ref h5, .ref h6, .int 0, .int 0, .int 0, .int 0, .int 0]))] H := hP
    have hD : va_D A [(h0, .inr (10, [.ref h1, .ref h7, .int 0])), (h2, .inr (1, [.null, .null, .int 0])), (h3, .inr (1, [.null, .null, .int 0])), (h4, .inr (1, [.null, .null, .int 0])), (h5, .inr (1, [.null, .null, .int 0])), (h6, .inl (cI, 64, .inl (fun _ => 0))), (h7, .inl (cO, 0, .inr (.inr (.inr (.inr (fun _ => none)))))), (h1, .inr (7, [.int 10, .int 20, .int 20, .int 20, .null, .ref h2, .ref h3, .ref h4, .ref h5, .ref h6, .int 0, .int 0, .int 0, .int 0, .int 0]))] := hD
    refine W.widen (k := 0) (n := 0) (Nat.le_of_ble_eq_true rfl) (Nat.le_of_ble_eq_true rfl) ?_
    refine lv_aload_n hx hb dX10_run_67 rfl (lv_at hl 3 rfl) ?_
    have hPc := hP.sub (ws' := [(h0, .inr (10, [.ref h1, .ref h7, .int 0])), (h1, .inr (7, [.int 10, .int 20, .int 20, .int 20, .null, .ref h2, .ref h3, .ref h4, .ref h5, .ref h6, .int 0, .int 0, .int 0, .int 0, .int 0])), (h2, .inr (1, [.null, .null, .int 0])), (h3, .inr (1, [.null, .null, .int 0])), (h4, .inr (1, [.null, .null, .int 0])), (h5, .inr (1, [.null, .null, .int 0])), (h6, .inl (cI, 64, .inl (fun _ => 0))), (h7, .inl (cO, 0, .inr (.inr (.inr (.inr (fun _ => none))))))]) [0, 7, 1, 2, 3, 4, 5, 6] rfl
    have hDc := hD.sub (ws' := [(h0, .inr (10, [.ref h1, .ref h7, .int 0])), (h1, .inr (7, [.int 10, .int 20, .int 20, .int 20, .null, .ref h2, .ref h3, .ref h4, .ref h5, .ref h6, .int 0, .int 0, .int 0, .int 0, .int 0])), (h2, .inr (1, [.null, .null, .int 0])), (h3, .inr (1, [.null, .null, .int 0])), (h4, .inr (1, [.null, .null, .int 0])), (h5, .inr (1, [.null, .null, .int 0])), (h6, .inl (cI, 64, .inl (fun _ => 0))), (h7, .inl (cO, 0, .inr (.inr (.inr (.inr (fun _ => none))))))]) [0, 7, 1, 2, 3, 4, 5, 6] (by decide) rfl
    have hFc := va_free (wc := [(h0, .inr (10, [.ref h1, .ref h7, .int 0])), (h1, .inr (7, [.int 10, .int 20, .int 20, .int 20, .null, .ref h2, .ref h3, .ref h4, .ref h5, .ref h6, .int 0, .int 0, .int 0, .int 0, .int 0])), (h2, .inr (1, [.null, .null, .int 0])), (h3, .inr (1, [.null, .null, .int 0])), (h4, .inr (1, [.null, .null, .int 0])), (h5, .inr (1, [.null, .null, .int 0])), (h6, .inl (cI, 64, .inl (fun _ => 0))), (h7, .inl (cO, 0, .inr (.inr (.inr (.inr (fun _ => none))))))]) hD hS hA [0, 7, 1, 2, 3, 4, 5, 6] rfl
    refine va_callv (va_runV (As := []) (rest := []) ⟨hx, hb, hml, hown, ha⟩ (c_bringSegments l D cI cJ cZ cO _ h0 h1 h2 h3 h4 h5 h6 h7) (cwV 0 ha (gaV kl_X10_72 km_X10_bringSegments ks_X10_bringSegments kz_X10 kd_X10_bringSegments) rfl rfl rfl (by decide +kernel) ⟨Nat.le_of_ble_eq_true rfl, Nat.le_of_ble_eq_true rfl⟩) ⟨pw_blind, va_recv hK hPc (ci := 10) (q0 := 0) rfl rfl, fun U hU hW => ⟨rfl, pw_start hU hW hPc hK hDc hN⟩⟩ rfl rfl hl.1 rfl (lv_room (Nat.le_of_ble_eq_true rfl)) dX10_run_68 ⟨Nat.le_of_ble_eq_true rfl, Nat.le_of_ble_eq_true rfl⟩) hS (fun q _ h => hFc q h) hFc (fun u t H1 locs ht hvm hw hB hz1 hk1 hS => ?_)
    obtain ⟨hP1, hK1, hD1⟩ := hB
    rw [ht] at hP1
    obtain ⟨hP, hD⟩ := va_join (wr := []) (w1 := [(h0, .inr (10, [.ref h1, .ref h7, .int 0])), (h1, .inr (7, [.int 10, .int 20, .int 20, .int 20, .null, .ref h2, .ref h3, .ref h4, .ref h5, .ref h6, .int 0, .int 0, .int 0, .int 0, .int 0])), (h2, .inr (1, [.null, .null, .int 0])), (h3, .inr (1, [.null, .null, .int 0])), (h4, .inr (1, [.null, .null, .int 0])), (h5, .inr (1, [.null, .null, .int 0])), (h6, .inl (cI, 64, .inl (fun _ => 0))), (h7, .inl (cO, 0, .inr (.inr (.inr (.inr (fun _ => none))))))]) hP hD [0, 7, 1, 2, 3, 4, 5, 6] [] rfl rfl (by decide) (by decide) hk1 hFc hP1 hD1
    generalize H1 = H at hP hS ⊢
    have hP : va_P D vwCl [(h0, .inr (10, [.ref h1, .ref h7, .int 0])), (h1, .inr (7, [.int 10, .int 20, .int 20, .int 20, .null, .ref h2, .ref h3, .ref h4, .ref h5, .ref h6, .int 0, .int 0, .int 0, .int 0, .int 0])), (h2, .inr (1, [.null, .null, .int 0])), (h3, .inr (1, [.null, .null, .int 0])), (h4, .inr (1, [.null, .null, .int 0])), (h5, .inr (1, [.null, .null, .int 0])), (h6, .inl (cI, 64, .inl (fun _ => 0))), (h7, .inl (cO, 0, .inr (.inr (.inr (.inr (fun _ => none))))))] H := hP
    have hD : va_D A [(h0, .inr (10, [.ref h1, .ref h7, .int 0])), (h1, .inr (7, [.int 10, .int 20, .int 20, .int 20, .null, .ref h2, .ref h3, .ref h4, .ref h5, .ref h6, .int 0, .int 0, .int 0, .int 0, .int 0])), (h2, .inr (1, [.null, .null, .int 0])), (h3, .inr (1, [.null, .null, .int 0])), (h4, .inr (1, [.null, .null, .int 0])), (h5, .inr (1, [.null, .null, .int 0])), (h6, .inl (cI, 64, .inl (fun _ => 0))), (h7, .inl (cO, 0, .inr (.inr (.inr (.inr (fun _ => none))))))] := hD
    refine W.widen (k := 0) (n := 0) (Nat.le_of_ble_eq_true rfl) (Nat.le_of_ble_eq_true rfl) ?_
    refine lv_aload_n hx hb dX10_run_71 rfl (lv_at hl 3 rfl) ?_
    have hPc := hP.sub (ws' := [(h0, .inr (10, [.ref h1, .ref h7, .int 0])), (h1, .inr (7, [.int 10, .int 20, .int 20, .int 20, .null, .ref h2, .ref h3, .ref h4, .ref h5, .ref h6, .int 0, .int 0, .int 0, .int 0, .int 0])), (h2, .inr (1, [.null, .null, .int 0])), (h3, .inr (1, [.null, .null, .int 0])), (h4, .inr (1, [.null, .null, .int 0])), (h5, .inr (1, [.null, .null, .int 0])), (h6, .inl (cI, 64, .inl (fun _ => 0))), (h7, .inl (cO, 0, .inr (.inr (.inr (.inr (fun _ => none))))))]) [0, 1, 2, 3, 4, 5, 6, 7] rfl
    have hDc := hD.sub (ws' := [(h0, .inr (10, [.ref h1, .ref h7, .int 0])), (h1, .inr (7, [.int 10, .int 20, .int 20, .int 20, .null, .ref h2, .ref h3, .ref h4, .ref h5, .ref h6, .int 0, .int 0, .int 0, .int 0, .int 0])), (h2, .inr (1, [.null, .null, .int 0])), (h3, .inr (1, [.null, .null, .int 0])), (h4, .inr (1, [.null, .null, .int 0])), (h5, .inr (1, [.null, .null, .int 0])), (h6, .inl (cI, 64, .inl (fun _ => 0))), (h7, .inl (cO, 0, .inr (.inr (.inr (.inr (fun _ => none))))))]) [0, 1, 2, 3, 4, 5, 6, 7] (by decide) rfl
    have hFc := va_free (wc := [(h0, .inr (10, [.ref h1, .ref h7, .int 0])), (h1, .inr (7, [.int 10, .int 20, .int 20, .int 20, .null, .ref h2, .ref h3, .ref h4, .ref h5, .ref h6, .int 0, .int 0, .int 0, .int 0, .int 0])), (h2, .inr (1, [.null, .null, .int 0])), (h3, .inr (1, [.null, .null, .int 0])), (h4, .inr (1, [.null, .null, .int 0])), (h5, .inr (1, [.null, .null, .int 0])), (h6, .inl (cI, 64, .inl (fun _ => 0))), (h7, .inl (cO, 0, .inr (.inr (.inr (.inr (fun _ => none))))))]) hD hS hA [0, 1, 2, 3, 4, 5, 6, 7] rfl
    refine va_callv (va_runV (As := []) (rest := []) ⟨hx, hb, hml, hown, ha⟩ (c_tellWindows l D cI cJ cZ cO _ h0 h1 h2 h3 h4 h5 h6 h7) (cwV 0 ha (gaV kl_X10_75 km_X10_tellWindowsAndAnswerLate ks_X10_tellWindowsAndAnswerLate kz_X10 kd_X10_tellWindowsAndAnswerLate) rfl rfl rfl (by decide +kernel) ⟨Nat.le_of_ble_eq_true rfl, Nat.le_of_ble_eq_true rfl⟩) ⟨pw_blind, va_recv hK hPc (ci := 10) (q0 := 0) rfl rfl, fun U hU hW => ⟨rfl, pw_start hU hW hPc hK hDc hN⟩⟩ rfl rfl hl.1 rfl (lv_room (Nat.le_of_ble_eq_true rfl)) dX10_run_72 ⟨Nat.le_of_ble_eq_true rfl, Nat.le_of_ble_eq_true rfl⟩) hS (fun q _ h => hFc q h) hFc (fun u t H1 locs ht hvm hw hB hz1 hk1 hS => ?_)
    obtain ⟨hP1, hK1, hD1⟩ := hB
    rw [ht] at hP1
    obtain ⟨hP, hD⟩ := va_join (wr := []) (w1 := [(h0, .inr (10, [.ref h1, .ref h7, .int 0])), (h1, .inr (7, [.int 10, .int 20, .int 20, .int 20, .null, .ref h2, .ref h3, .ref h4, .ref h5, .ref h6, .int 0, .int 0, .int 0, .int 0, .int 0])), (h2, .inr (1, [.null, .null, .int 0])), (h3, .inr (1, [.null, .null, .int 0])), (h4, .inr (1, [.null, .null, .int 0])), (h5, .inr (1, [.null, .null, .int 0])), (h6, .inl (cI, 64, .inl (fun _ => 0))), (h7, .inl (cO, 0, .inr (.inr (.inr (.inr (fun _ => none))))))]) hP hD [0, 1, 2, 3, 4, 5, 6, 7] [] rfl rfl (by decide) (by decide) hk1 hFc hP1 hD1
    generalize H1 = H at hP hS ⊢
    have hP : va_P D vwCl [(h0, .inr (10, [.ref h1, .ref h7, .int 0])), (h1, .inr (7, [.int 10, .int 20, .int 20, .int 20, .null, .ref h2, .ref h3, .ref h4, .ref h5, .ref h6, .int 0, .int 0, .int 0, .int 0, .int 0])), (h2, .inr (1, [.null, .null, .int 0])), (h3, .inr (1, [.null, .null, .int 0])), (h4, .inr (1, [.null, .null, .int 0])), (h5, .inr (1, [.null, .null, .int 0])), (h6, .inl (cI, 64, .inl (fun _ => 0))), (h7, .inl (cO, 0, .inr (.inr (.inr (.inr (fun _ => none))))))] H := hP
    have hD : va_D A [(h0, .inr (10, [.ref h1, .ref h7, .int 0])), (h1, .inr (7, [.int 10, .int 20, .int 20, .int 20, .null, .ref h2, .ref h3, .ref h4, .ref h5, .ref h6, .int 0, .int 0, .int 0, .int 0, .int 0])), (h2, .inr (1, [.null, .null, .int 0])), (h3, .inr (1, [.null, .null, .int 0])), (h4, .inr (1, [.null, .null, .int 0])), (h5, .inr (1, [.null, .null, .int 0])), (h6, .inl (cI, 64, .inl (fun _ => 0))), (h7, .inl (cO, 0, .inr (.inr (.inr (.inr (fun _ => none))))))] := hD
    refine W.widen (k := 0) (n := 0) (Nat.le_of_ble_eq_true rfl) (Nat.le_of_ble_eq_true rfl) ?_
    refine lv_aload_n hx hb dX10_run_75 rfl (lv_at hl 3 rfl) ?_
    have hPc := hP.sub (ws' := [(h0, .inr (10, [.ref h1, .ref h7, .int 0])), (h1, .inr (7, [.int 10, .int 20, .int 20, .int 20, .null, .ref h2, .ref h3, .ref h4, .ref h5, .ref h6, .int 0, .int 0, .int 0, .int 0, .int 0])), (h2, .inr (1, [.null, .null, .int 0])), (h3, .inr (1, [.null, .null, .int 0])), (h4, .inr (1, [.null, .null, .int 0])), (h5, .inr (1, [.null, .null, .int 0])), (h6, .inl (cI, 64, .inl (fun _ => 0))), (h7, .inl (cO, 0, .inr (.inr (.inr (.inr (fun _ => none))))))]) [0, 1, 2, 3, 4, 5, 6, 7] rfl
    have hDc := hD.sub (ws' := [(h0, .inr (10, [.ref h1, .ref h7, .int 0])), (h1, .inr (7, [.int 10, .int 20, .int 20, .int 20, .null, .ref h2, .ref h3, .ref h4, .ref h5, .ref h6, .int 0, .int 0, .int 0, .int 0, .int 0])), (h2, .inr (1, [.null, .null, .int 0])), (h3, .inr (1, [.null, .null, .int 0])), (h4, .inr (1, [.null, .null, .int 0])), (h5, .inr (1, [.null, .null, .int 0])), (h6, .inl (cI, 64, .inl (fun _ => 0))), (h7, .inl (cO, 0, .inr (.inr (.inr (.inr (fun _ => none))))))]) [0, 1, 2, 3, 4, 5, 6, 7] (by decide) rfl
    have hFc := va_free (wc := [(h0, .inr (10, [.ref h1, .ref h7, .int 0])), (h1, .inr (7, [.int 10, .int 20, .int 20, .int 20, .null, .ref h2, .ref h3, .ref h4, .ref h5, .ref h6, .int 0, .int 0, .int 0, .int 0, .int 0])), (h2, .inr (1, [.null, .null, .int 0])), (h3, .inr (1, [.null, .null, .int 0])), (h4, .inr (1, [.null, .null, .int 0])), (h5, .inr (1, [.null, .null, .int 0])), (h6, .inl (cI, 64, .inl (fun _ => 0))), (h7, .inl (cO, 0, .inr (.inr (.inr (.inr (fun _ => none))))))]) hD hS hA [0, 1, 2, 3, 4, 5, 6, 7] rfl
    refine va_callv (va_runV (As := []) (rest := []) ⟨hx, hb, hml, hown, ha⟩ (c_bringAcks l D cI cJ cZ cO _ h0 h1 h2 h3 h4 h5 h6 h7) (cwV 0 ha (gaV kl_X10_78 km_X10_bringAcks ks_X10_bringAcks kz_X10 kd_X10_bringAcks) rfl rfl rfl (by decide +kernel) ⟨Nat.le_of_ble_eq_true rfl, Nat.le_of_ble_eq_true rfl⟩) ⟨pw_blind, va_recv hK hPc (ci := 10) (q0 := 0) rfl rfl, fun U hU hW => ⟨rfl, pw_start hU hW hPc hK hDc hN⟩⟩ rfl rfl hl.1 rfl (lv_room (Nat.le_of_ble_eq_true rfl)) dX10_run_76 ⟨Nat.le_of_ble_eq_true rfl, Nat.le_of_ble_eq_true rfl⟩) hS (fun q _ h => hFc q h) hFc (fun u t H1 locs ht hvm hw hB hz1 hk1 hS => ?_)
    obtain ⟨hP1, hK1, hD1⟩ := hB
    rw [ht] at hP1
    obtain ⟨hP, hD⟩ := va_join (wr := []) (w1 := [(h0, .inr (10, [.ref h1, .ref h7, .int 0])), (h1, .inr (7, [.int 10, .int 20, .int 20, .int 20, .null, .ref h2, .ref h3, .ref h4, .ref h5, .ref h6, .int 0, .int 0, .int 0, .int 0, .int 0])), (h2, .inr (1, [.null, .null, .int 0])), (h3, .inr (1, [.null, .null, .int 0])), (h4, .inr (1, [.null, .null, .int 0])), (h5, .inr (1, [.null, .null, .int 0])), (h6, .inl (cI, 64, .inl (fun _ => 0))), (h7, .inl (cO, 0, .inr (.inr (.inr (.inr (fun _ => none))))))]) hP hD [0, 1, 2, 3, 4, 5, 6, 7] [] rfl rfl (by decide) (by decide) hk1 hFc hP1 hD1
    generalize H1 = H at hP hS ⊢
    have hP : va_P D vwCl [(h0, .inr (10, [.ref h1, .ref h7, .int 0])), (h1, .inr (7, [.int 10, .int 20, .int 20, .int 20, .null, .ref h2, .ref h3, .ref h4, .ref h5, .ref h6, .int 0, .int 0, .int 0, .int 0, .int 0])), (h2, .inr (1, [.null, .null, .int 0])), (h3, .inr (1, [.null, .null, .int 0])), (h4, .inr (1, [.null, .null, .int 0])), (h5, .inr (1, [.null, .null, .int 0])), (h6, .inl (cI, 64, .inl (fun _ => 0))), (h7, .inl (cO, 0, .inr (.inr (.inr (.inr (fun _ => none))))))] H := hP
    have hD : va_D A [(h0, .inr (10, [.ref h1, .ref h7, .int 0])), (h1, .inr (7, [.int 10, .int 20, .int 20, .int 20, .null, .ref h2, .ref h3, .ref h4, .ref h5, .ref h6, .int 0, .int 0, .int 0, .int 0, .int 0])), (h2, .inr (1, [.null, .null, .int 0])), (h3, .inr (1, [.null, .null, .int 0])), (h4, .inr (1, [.null, .null, .int 0])), (h5, .inr (1, [.null, .null, .int 0])), (h6, .inl (cI, 64, .inl (fun _ => 0))), (h7, .inl (cO, 0, .inr (.inr (.inr (.inr (fun _ => none))))))] := hD
    refine W.widen (k := 0) (n := 0) (Nat.le_of_ble_eq_true rfl) (Nat.le_of_ble_eq_true rfl) ?_
    refine lv_aload_n hx hb dX10_run_79 rfl (lv_at hl 3 rfl) ?_
    refine va_get (D := D) (ci := 10) (v := .ref h7) (C := RX10) (T := TX10) (N := 3) hx hb ha inlX10 hown hK hP 0 rfl rfl 1 (by decide) (ha _ kf_X10_18) (fun _ h9 => h9) rfl dX10_run_80 ?_
    refine lv_astore (lv' := [(5, .ref h7), (4, .int 0), (3, .int (nI j)), (2, .int 0), (0, .ref h0), (1, .int (nI j))]) hx hb dX10_run_83 hl (by decide) rfl (fun ls hl => ?_)
    refine lv_aload hx hb dX10_run_85 (lv_at hl 0 rfl) ?_
    refine va_alen hx hb hK hP 7 3 (v := 0) rfl rfl (by decide) dX10_run_87 ?_
    refine lv_istore (lv' := [(6, .int 0), (5, .ref h7), (4, .int 0), (3, .int (nI j)), (2, .int 0), (0, .ref h0), (1, .int (nI j))]) hx hb dX10_run_88 hl (by decide) rfl (fun ls hl => ?_)
    refine lv_iconst (v := 0) hx hb dX10_run_90 (by decide) ?_
    refine lv_istore (lv' := [(7, .int 0), (6, .int 0), (5, .ref h7), (4, .int 0), (3, .int (nI j)), (2, .int 0), (0, .ref h0), (1, .int (nI j))]) hx hb dX10_run_91 hl (by decide) rfl (fun ls hl => ?_)
    refine lv_iload hx hb dX10_run_93 (lv_at hl 0 rfl) ?_
    refine lv_iload hx hb dX10_run_95 (lv_at hl 1 rfl) ?_
    refine lv_icmp_ge (tgt := 129) hx hb dX10_run_97 (by decide) (fun c_11 => ?_) (fun c_11 => ?_)
    rotate_left
    · exact absurd (by decide) c_11
    refine lv_aload_n hx hb dX10_run_129 rfl (lv_at hl 6 rfl) ?_
    refine va_get (D := D) (ci := 10) (v := .ref h7) (C := RX10) (T := TX10) (N := 3) hx hb ha inlX10 hown hK hP 0 rfl rfl 1 (by decide) (ha _ kf_X10_18) (fun _ h9 => h9) rfl dX10_run_130 ?_
    refine lv_astore (lv' := [(5, .ref h7), (7, .int 0), (6, .int 0), (4, .int 0), (3, .int (nI j)), (2, .int 0), (0, .ref h0), (1, .int (nI j))]) hx hb dX10_run_133 hl (by decide) rfl (fun ls hl => ?_)
    refine lv_aload hx hb dX10_run_135 (lv_at hl 0 rfl) ?_
    refine va_alen hx hb hK hP 7 3 (v := 0) rfl rfl (by decide) dX10_run_137 ?_
    refine lv_istore (lv' := [(6, .int 0), (5, .ref h7), (7, .int 0), (4, .int 0), (3, .int (nI j)), (2, .int 0), (0, .ref h0), (1, .int (nI j))]) hx hb dX10_run_138 hl (by decide) rfl (fun ls hl => ?_)
    refine lv_iconst (v := 0) hx hb dX10_run_140 (by decide) ?_
    refine lv_istore (lv' := [(7, .int 0), (6, .int 0), (5, .ref h7), (4, .int 0), (3, .int (nI j)), (2, .int 0), (0, .ref h0), (1, .int (nI j))]) hx hb dX10_run_141 hl (by decide) rfl (fun ls hl => ?_)
    refine lv_iload hx hb dX10_run_143 (lv_at hl 0 rfl) ?_
    refine lv_iload hx hb dX10_run_145 (lv_at hl 1 rfl) ?_
    refine lv_icmp_ge (tgt := 179) hx hb dX10_run_147 (by decide) (fun c_12 => ?_) (fun c_12 => ?_)
    rotate_left
    · exact absurd (by decide) c_12
    refine lv_aload_n hx hb dX10_run_179 rfl (lv_at hl 6 rfl) ?_
    refine lv_aload_n hx hb dX10_run_180 rfl (lv_at hl 6 rfl) ?_
    refine lv_iload_n hx hb dX10_run_181 rfl (lv_at hl 4 rfl) ?_
    have hPc := hP.sub (ws' := [(h0, .inr (10, [.ref h1, .ref h7, .int 0])), (h1, .inr (7, [.int 10, .int 20, .int 20, .int 20, .null, .ref h2, .ref h3, .ref h4, .ref h5, .ref h6, .int 0, .int 0, .int 0, .int 0, .int 0])), (h2, .inr (1, [.null, .null, .int 0])), (h3, .inr (1, [.null, .null, .int 0])), (h4, .inr (1, [.null, .null, .int 0])), (h5, .inr (1, [.null, .null, .int 0])), (h6, .inl (cI, 64, .inl (fun _ => 0))), (h7, .inl (cO, 0, .inr (.inr (.inr (.inr (fun _ => none))))))]) [0, 1, 2, 3, 4, 5, 6, 7] rfl
    have hDc := hD.sub (ws' := [(h0, .inr (10, [.ref h1, .ref h7, .int 0])), (h1, .inr (7, [.int 10, .int 20, .int 20, .int 20, .null, .ref h2, .ref h3, .ref h4, .ref h5, .ref h6, .int 0, .int 0, .int 0, .int 0, .int 0])), (h2, .inr (1, [.null, .null, .int 0])), (h3, .inr (1, [.null, .null, .int 0])), (h4, .inr (1, [.null, .null, .int 0])), (h5, .inr (1, [.null, .null, .int 0])), (h6, .inl (cI, 64, .inl (fun _ => 0))), (h7, .inl (cO, 0, .inr (.inr (.inr (.inr (fun _ => none))))))]) [0, 1, 2, 3, 4, 5, 6, 7] (by decide) rfl
    have hFc := va_free (wc := [(h0, .inr (10, [.ref h1, .ref h7, .int 0])), (h1, .inr (7, [.int 10, .int 20, .int 20, .int 20, .null, .ref h2, .ref h3, .ref h4, .ref h5, .ref h6, .int 0, .int 0, .int 0, .int 0, .int 0])), (h2, .inr (1, [.null, .null, .int 0])), (h3, .inr (1, [.null, .null, .int 0])), (h4, .inr (1, [.null, .null, .int 0])), (h5, .inr (1, [.null, .null, .int 0])), (h6, .inl (cI, 64, .inl (fun _ => 0))), (h7, .inl (cO, 0, .inr (.inr (.inr (.inr (fun _ => none))))))]) hD hS hA [0, 1, 2, 3, 4, 5, 6, 7] rfl
    refine va_calli (va_runV (As := [.int (nI j)]) (rest := [.ref h0]) ⟨hx, hb, hml, hown, ha⟩ (c_nextBusy l D cI cJ cZ cO _ h0 h1 h2 h3 h4 h5 h6 h7 j h1j hj) (cwV 1 ha (gaV kl_X10_88 km_X10_nextBusyTick ks_X10_nextBusyTick kz_X10 kd_X10_nextBusyTick) rfl rfl rfl (by decide +kernel) ⟨Nat.le_of_ble_eq_true rfl, Nat.le_of_ble_eq_true rfl⟩) ⟨pw_blind, va_recv hK hPc (ci := 10) (q0 := 0) rfl rfl, fun U hU hW => ⟨rfl, pw_start hU hW hPc hK hDc hN⟩⟩ rfl rfl hl.1 rfl (lv_room (Nat.le_of_ble_eq_true rfl)) dX10_run_182 ⟨Nat.le_of_ble_eq_true rfl, Nat.le_of_ble_eq_true rfl⟩) hS (fun q _ h => hFc q h) hFc (fun r_13 u t H1 locs ht hvm hw hB hz1 hk1 hS => ?_)
    obtain ⟨hP1, hK1, hD1⟩ := hB
    rw [ht] at hP1
    obtain ⟨hP, hD⟩ := va_join (wr := []) (w1 := [(h0, .inr (10, [.ref h1, .ref h7, .int 0])), (h1, .inr (7, [.int 10, .int 20, .int 20, .int 20, .null, .ref h2, .ref h3, .ref h4, .ref h5, .ref h6, .int 0, .int 0, .int 0, .int 0, .int 0])), (h2, .inr (1, [.null, .null, .int 0])), (h3, .inr (1, [.null, .null, .int 0])), (h4, .inr (1, [.null, .null, .int 0])), (h5, .inr (1, [.null, .null, .int 0])), (h6, .inl (cI, 64, .inl (fun _ => 0))), (h7, .inl (cO, 0, .inr (.inr (.inr (.inr (fun _ => none))))))]) hP hD [0, 1, 2, 3, 4, 5, 6, 7] [] rfl rfl (by decide) (by decide) hk1 hFc hP1 hD1
    generalize H1 = H at hP hS ⊢
    have hP : va_P D vwCl [(h0, .inr (10, [.ref h1, .ref h7, .int 0])), (h1, .inr (7, [.int 10, .int 20, .int 20, .int 20, .null, .ref h2, .ref h3, .ref h4, .ref h5, .ref h6, .int 0, .int 0, .int 0, .int 0, .int 0])), (h2, .inr (1, [.null, .null, .int 0])), (h3, .inr (1, [.null, .null, .int 0])), (h4, .inr (1, [.null, .null, .int 0])), (h5, .inr (1, [.null, .null, .int 0])), (h6, .inl (cI, 64, .inl (fun _ => 0))), (h7, .inl (cO, 0, .inr (.inr (.inr (.inr (fun _ => none))))))] H := hP
    have hD : va_D A [(h0, .inr (10, [.ref h1, .ref h7, .int 0])), (h1, .inr (7, [.int 10, .int 20, .int 20, .int 20, .null, .ref h2, .ref h3, .ref h4, .ref h5, .ref h6, .int 0, .int 0, .int 0, .int 0, .int 0])), (h2, .inr (1, [.null, .null, .int 0])), (h3, .inr (1, [.null, .null, .int 0])), (h4, .inr (1, [.null, .null, .int 0])), (h5, .inr (1, [.null, .null, .int 0])), (h6, .inl (cI, 64, .inl (fun _ => 0))), (h7, .inl (cO, 0, .inr (.inr (.inr (.inr (fun _ => none))))))] := hD
    refine W.widen (k := 0) (n := 0) (Nat.le_of_ble_eq_true rfl) (Nat.le_of_ble_eq_true rfl) ?_
    obtain rfl : r_13 = (nI j) := hw
    refine va_put (D := D) (ci := 10) (v := .int (nI j)) (ty := .int) (C := RX10) (T := TX10) (N := 3) hx hb ha inlX10 tyX10 tyX10_ok nmX10 hown hK hP hD hS 0 rfl rfl 2 (by decide) (ha _ kf_X10_60) (fun _ h9 => h9) rfl (by decide +kernel) rfl rfl (Nat.le_of_ble_eq_true rfl) dX10_run_185 (fun H locs hP hD hS => ?_)
    have hP : va_P D vwCl [(h0, .inr (10, [.ref h1, .ref h7, .int (nI j)])), (h1, .inr (7, [.int 10, .int 20, .int 20, .int 20, .null, .ref h2, .ref h3, .ref h4, .ref h5, .ref h6, .int 0, .int 0, .int 0, .int 0, .int 0])), (h2, .inr (1, [.null, .null, .int 0])), (h3, .inr (1, [.null, .null, .int 0])), (h4, .inr (1, [.null, .null, .int 0])), (h5, .inr (1, [.null, .null, .int 0])), (h6, .inl (cI, 64, .inl (fun _ => 0))), (h7, .inl (cO, 0, .inr (.inr (.inr (.inr (fun _ => none))))))] H := hP
    have hD : va_D A [(h0, .inr (10, [.ref h1, .ref h7, .int (nI j)])), (h1, .inr (7, [.int 10, .int 20, .int 20, .int 20, .null, .ref h2, .ref h3, .ref h4, .ref h5, .ref h6, .int 0, .int 0, .int 0, .int 0, .int 0])), (h2, .inr (1, [.null, .null, .int 0])), (h3, .inr (1, [.null, .null, .int 0])), (h4, .inr (1, [.null, .null, .int 0])), (h5, .inr (1, [.null, .null, .int 0])), (h6, .inl (cI, 64, .inl (fun _ => 0))), (h7, .inl (cO, 0, .inr (.inr (.inr (.inr (fun _ => none))))))] := hD
    refine lv_iinc (v := 1) (lv' := [(4, .int 1), (7, .int 0), (6, .int 0), (5, .ref h7), (3, .int (nI j)), (2, .int 0), (0, .ref h0), (1, .int (nI j))]) hx hb dX10_run_188 hl (k := 3) rfl (by decide) (by decide) rfl (fun ls hl => ?_)
    refine lv_goto (tgt := 42) hx hb dX10_run_191 (by decide) ?_
    refine lv_iload hx hb dX10_run_42 (lv_at hl 0 rfl) ?_
    refine lv_iload_n hx hb dX10_run_44 rfl (lv_at hl 7 rfl) ?_
    refine lv_icmp_ge (tgt := 194) hx hb dX10_run_45 (by decide) (fun c_15 => ?_) (fun c_15 => ?_)
    · refine lv_aload_n hx hb dX10_run_194 rfl (lv_at hl 6 rfl) ?_
      refine va_get (D := D) (ci := 10) (v := .ref h1) (C := RX10) (T := TX10) (N := 3) hx hb ha inlX10 hown hK hP 0 rfl rfl 0 (by decide) (ha _ kf_X10_10) (fun _ h9 => h9) rfl dX10_run_195 ?_
      refine va_getN (D := D) (ci := 7) (v := .int 0) (C := RX7) (T := TX7) (N := 15) hx hb ha inlX7 hown hK hP 1 rfl rfl 11 (by decide) (va_Nw.use rfl (hN.f RX10 65 "CongestionBench$Road" "sent" "I" "CongestionBench" (by decide +kernel))) (fun _ h9 => h9) rfl dX10_run_198 ?_
      refine lv_iload_n hx hb dX10_run_201 rfl (lv_at hl 5 rfl) ?_
      refine lv_isub hx hb dX10_run_202 ?_
      refine lv_topi (fun v_16 ev_16 => ?_)
      obtain rfl : v_16 = 0 := ev_16.trans (by decide)
      exact W.iret (v := 0) hx hb hr (fun t ht hW => ⟨⟨0, (), rfl, by simp [rn, c_2], ⟨pw_P0, va_K.moved hW.alike hK, pw_D0⟩⟩, hS.F ht⟩) hS.2.2 dX10_run_203
    · refine lv_aload_n hx hb dX10_run_48 rfl (lv_at hl 6 rfl) ?_
      refine va_get (D := D) (ci := 10) (v := .int (nI j)) (C := RX10) (T := TX10) (N := 3) hx hb ha inlX10 hown hK hP 0 rfl rfl 2 (by decide) (ha _ kf_X10_60) (fun _ h9 => h9) rfl dX10_run_49 ?_
      refine lv_iload_n hx hb dX10_run_52 rfl (lv_at hl 4 rfl) ?_
      refine lv_icmp_ge (tgt := 194) hx hb dX10_run_53 (by decide) (fun c_17 => ?_) (fun c_17 => ?_)
      rotate_left
      · exact absurd (Int32.le_refl _) c_17
      refine lv_aload_n hx hb dX10_run_194 rfl (lv_at hl 6 rfl) ?_
      refine va_get (D := D) (ci := 10) (v := .ref h1) (C := RX10) (T := TX10) (N := 3) hx hb ha inlX10 hown hK hP 0 rfl rfl 0 (by decide) (ha _ kf_X10_10) (fun _ h9 => h9) rfl dX10_run_195 ?_
      refine va_getN (D := D) (ci := 7) (v := .int 0) (C := RX7) (T := TX7) (N := 15) hx hb ha inlX7 hown hK hP 1 rfl rfl 11 (by decide) (va_Nw.use rfl (hN.f RX10 65 "CongestionBench$Road" "sent" "I" "CongestionBench" (by decide +kernel))) (fun _ h9 => h9) rfl dX10_run_198 ?_
      refine lv_iload_n hx hb dX10_run_201 rfl (lv_at hl 5 rfl) ?_
      refine lv_isub hx hb dX10_run_202 ?_
      refine lv_topi (fun v_18 ev_18 => ?_)
      obtain rfl : v_18 = 0 := ev_18.trans (by decide)
      exact W.iret (v := 0) hx hb hr (fun t ht hW => ⟨⟨0, (), rfl, by simp [rn, c_2], ⟨pw_P0, va_K.moved hW.alike hK, pw_D0⟩⟩, hS.F ht⟩) hS.2.2 dX10_run_203

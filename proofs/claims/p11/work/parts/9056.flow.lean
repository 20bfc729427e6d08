set_option maxHeartbeats 4000000 in
set_option maxRecDepth 100000 in
theorem c_Flow2 (l : Launch) (D : va_G) (cI cJ cZ cO : ClassId) (sz : Nat) (h0 : Nat) (n0 k0 b0 : Int32) (hz : b0 = 0 ∨ b0 = 1) : Met l yX3_init (wa yX3_init cX3_init 4 none) ({ frames := 4, cells := 11, slots := 61, locals := 82 }) (va_Pc [.ref h0, .int n0, .int k0, .int b0] (pw_s D cI cJ cZ cO sz [(h0, .inr (3, [.null, .null]))])) (va_Qv (fun (_ : Unit) => True) (fun (_ : Unit) (t : State) => ∃ (q8 q5 q6 q1 q2 q3 q4 q7 q9 q10 q11 : Nat), pw_t D cI cJ cZ cO (va_A [(h0, .inr (3, [.null, .null]))] sz) [(h0, fwC q8 q9), (q8, .inr (8, [.int n0, .int k0, .int 0, .int 0, .int 0, .int 0, .int 2048, .int 2048, .int 1048576, .int 40, .int 0, .int 0, .int 0, .int 0, .int 0, .int 0, .int 0, .ref q5, .ref q6, .ref q7])), (q5, .inr (9, [.int 1000, .int 0, .int 0, .int (-1), .int (-1), .int 0])), (q6, .inr (0, [.ref q1, .ref q3, .int 0, .int (-1)])), (q1, mkC q2), (q2, .inl (cJ, 4, .inr (.inl (fun _ => 0)))), (q3, mkC q4), (q4, .inl (cJ, 4, .inr (.inl (fun _ => 0)))), (q7, .inr (2, [.int 0, .int 0, .int (-1), .int 0, .int 0])), (q9, .inr (6, [.int n0, .int b0, .int 0, .int 40, .ref q10, .int 0, .int 0, .int 0, .int 0, .int (-1), .int 0])), (q10, mkC q11), (q11, .inl (cJ, 4, .inr (.inl (fun _ => 0))))] t) (va_A [(h0, .inr (3, [.null, .null]))] sz)) 11 61 (va_A [(h0, .inr (3, [.null, .null]))] sz) := by
  refine Met.ofW (cc := cX3_init) (maxL := 4) (ret := none) (by decide) rfl ?_
  intro p e s m args below meth c s₁ B hml hv
  obtain ⟨rfl, hsz, hP, hK, hD0, hN⟩ := hv
  have hx := B.exec
  have hb := B.bytes
  have hr := B.returns
  have hts := atoms_spec (ws := (wa yX3_init cX3_init 4 none)) B.pre
  have ha : ∀ w ∈ wsL_law, w.before _ s = true := fun w h => hts w (List.mem_cons_of_mem _ h)
  have hown : s.vm.findClass RX3 = some m.cls := findClass_of_methodNamed B.named
  have hlocks := B.notSynchronized
  have hin : meth.name = "<init>" := (name_of_methodNamed B.named B.method).1
  subst hsz
  have hD := hD0.self (sz := s.heap.size)
  generalize hAe : va_A [(h0, .inr (3, [.null, .null]))] s.heap.size = A at hD ⊢
  have hA : ∀ q : Nat, s.heap.size ≤ q → A q := fun q h => by rw [← hAe]; exact Or.inr h
  have hS : va_S A s.heap s.heap [] := va_S.rf
  have hP : va_P D vwCl [(h0, .inr (3, [.null, .null]))] s.heap := hP
  have hl := lv_entry ([.ref h0, .int n0, .int k0, .int b0]) (n := 4) (Nat.le_of_ble_eq_true rfl)
  rw [lg_entry_eq]
  generalize (lg_sl ([.ref h0, .int n0, .int k0, .int b0]) ++ List.replicate (4 - (lg_sl ([.ref h0, .int n0, .int k0, .int b0])).length) Slot.unset).toArray = ls at hl ⊢
  have hl : lv_has ls 4 [(0, .ref h0), (1, .int n0), (2, .int k0), (3, .int b0)] := hl
  refine lv_aload_n hx hb dX3_init_0 rfl (lv_at hl 0 rfl) ?_
  refine W.objInit hx hb hown (ha _ kl_X3_1) (ha _ km_obj) (ha _ kd_obj) rfl (by rw [hml]; exact hl.1) rfl dX3_init_1 (Nat.le_of_ble_eq_true rfl) (Nat.le_of_ble_eq_true rfl) ?_
  refine W.eq (g2 := F0 m 4 ls []) rfl ?_
  refine lv_aload_n hx hb dX3_init_4 rfl (lv_at hl 0 rfl) ?_
  refine va_new (ci := 8) (fs := [.int 0, .int 0, .int 0, .int 0, .int 0, .int 0, .int 0, .int 0, .int 0, .int 0, .int 0, .int 0, .int 0, .int 0, .int 0, .int 0, .int 0, .null, .null, .null]) (C := RX8) (T := TX8) (N := 20) hx hb ha inlX8 tyX8 tyX8_ok hown (ha _ kc_X3_7) (ha _ ki_X8) (ha _ kz_X8) hK hP hD hS hA rfl (by decide) (Nat.le_of_ble_eq_true rfl) (Nat.le_of_ble_eq_true rfl) dX3_init_5 (fun q_1 H hP hD hS => ?_)
  have hP : va_P D vwCl [(h0, .inr (3, [.null, .null])), (q_1, .inr (8, [.int 0, .int 0, .int 0, .int 0, .int 0, .int 0, .int 0, .int 0, .int 0, .int 0, .int 0, .int 0, .int 0, .int 0, .int 0, .int 0, .int 0, .null, .null, .null]))] H := hP
  have hD : va_D A [(h0, .inr (3, [.null, .null])), (q_1, .inr (8, [.int 0, .int 0, .int 0, .int 0, .int 0, .int 0, .int 0, .int 0, .int 0, .int 0, .int 0, .int 0, .int 0, .int 0, .int 0, .int 0, .int 0, .null, .null, .null]))] := hD
  refine W.widen (k := 1) (n := 20) (Nat.le_of_ble_eq_true rfl) (Nat.le_of_ble_eq_true rfl) ?_
  refine lv_dup hx hb dX3_init_8 rfl ?_
  refine lv_iload_n hx hb dX3_init_9 rfl (lv_at hl 1 rfl) ?_
  refine lv_iload_n hx hb dX3_init_10 rfl (lv_at hl 2 rfl) ?_
  have hPc := hP.sub (ws' := [(q_1, .inr (8, [.int 0, .int 0, .int 0, .int 0, .int 0, .int 0, .int 0, .int 0, .int 0, .int 0, .int 0, .int 0, .int 0, .int 0, .int 0, .int 0, .int 0, .null, .null, .null]))]) [1] rfl
  have hDc := hD.sub (ws' := [(q_1, .inr (8, [.int 0, .int 0, .int 0, .int 0, .int 0, .int 0, .int 0, .int 0, .int 0, .int 0, .int 0, .int 0, .int 0, .int 0, .int 0, .int 0, .int 0, .null, .null, .null]))]) [1] (by decide) rfl
  have hFc := va_free (wc := [(q_1, .inr (8, [.int 0, .int 0, .int 0, .int 0, .int 0, .int 0, .int 0, .int 0, .int 0, .int 0, .int 0, .int 0, .int 0, .int 0, .int 0, .int 0, .int 0, .null, .null, .null]))]) hD hS hA [1] rfl
  refine va_callv (va_runI (As := [.int n0, .int k0]) (rest := [.ref q_1, .ref h0]) ⟨hx, hb, hml, hown, ha⟩ (c_Sender l D cI cJ cZ cO _ q_1 n0 k0) (cwI 2 ha (gaI kd_X8_init) rfl rfl rfl (ha _ kz_X8) (ha _ kl_X3_9) (ha _ km_X8_init) rfl (by decide +kernel) ⟨Nat.le_of_ble_eq_true rfl, Nat.le_of_ble_eq_true rfl⟩) ⟨pw_blind, fun U hU hW => ⟨rfl, pw_start hU hW hPc hK hDc hN⟩⟩ rfl rfl hl.1 rfl (lv_room (Nat.le_of_ble_eq_true rfl)) dX3_init_11 ⟨Nat.le_of_ble_eq_true rfl, Nat.le_of_ble_eq_true rfl⟩) hS (fun q _ h => hFc q h) hFc (fun u t H1 locs ht hvm hw hB hz1 hk1 hS => ?_)
  obtain ⟨q_3, q_4, q_5, q_6, q_7, q_8, q_9, hP1, hK1, hD1⟩ := hB
  rw [ht] at hP1
  obtain ⟨hP, hD⟩ := va_join (wr := [(h0, .inr (3, [.null, .null]))]) (w1 := [(q_1, .inr (8, [.int n0, .int k0, .int 0, .int 0, .int 0, .int 0, .int 2048, .int 2048, .int 1048576, .int 40, .int 0, .int 0, .int 0, .int 0, .int 0, .int 0, .int 0, .ref q_3, .ref q_4, .ref q_9])), (q_3, .inr (9, [.int 1000, .int 0, .int 0, .int (-1), .int (-1), .int 0])), (q_4, .inr (0, [.ref q_5, .ref q_7, .int 0, .int (-1)])), (q_5, mkC q_6), (q_6, .inl (cJ, 4, .inr (.inl (fun _ => 0)))), (q_7, mkC q_8), (q_8, .inl (cJ, 4, .inr (.inl (fun _ => 0)))), (q_9, .inr (2, [.int 0, .int 0, .int (-1), .int 0, .int 0]))]) hP hD [1] [0] rfl rfl (by decide) (by decide) hk1 hFc hP1 hD1
  generalize H1 = H at hP hS ⊢
  have hP : va_P D vwCl [(h0, .inr (3, [.null, .null])), (q_1, .inr (8, [.int n0, .int k0, .int 0, .int 0, .int 0, .int 0, .int 2048, .int 2048, .int 1048576, .int 40, .int 0, .int 0, .int 0, .int 0, .int 0, .int 0, .int 0, .ref q_3, .ref q_4, .ref q_9])), (q_3, .inr (9, [.int 1000, .int 0, .int 0, .int (-1), .int (-1), .int 0])), (q_4, .inr (0, [.ref q_5, .ref q_7, .int 0, .int (-1)])), (q_5, mkC q_6), (q_6, .inl (cJ, 4, .inr (.inl (fun _ => 0)))), (q_7, mkC q_8), (q_8, .inl (cJ, 4, .inr (.inl (fun _ => 0)))), (q_9, .inr (2, [.int 0, .int 0, .int (-1), .int 0, .int 0]))] H := hP
  have hD : va_D A [(h0, .inr (3, [.null, .null])), (q_1, .inr (8, [.int n0, .int k0, .int 0, .int 0, .int 0, .int 0, .int 2048, .int 2048, .int 1048576, .int 40, .int 0, .int 0, .int 0, .int 0, .int 0, .int 0, .int 0, .ref q_3, .ref q_4, .ref q_9])), (q_3, .inr (9, [.int 1000, .int 0, .int 0, .int (-1), .int (-1), .int 0])), (q_4, .inr (0, [.ref q_5, .ref q_7, .int 0, .int (-1)])), (q_5, mkC q_6), (q_6, .inl (cJ, 4, .inr (.inl (fun _ => 0)))), (q_7, mkC q_8), (q_8, .inl (cJ, 4, .inr (.inl (fun _ => 0)))), (q_9, .inr (2, [.int 0, .int 0, .int (-1), .int 0, .int 0]))] := hD
  refine W.widen (k := 8) (n := 45) (Nat.le_of_ble_eq_true rfl) (Nat.le_of_ble_eq_true rfl) ?_
  refine va_putF (D := D) (ci := 3) (v := .ref q_1) (ty := .object "CongestionBench$Sender") (C := RX3) (T := TX3) (N := 2) hx hb ha inlX3 tyX3 tyX3_ok nmX3 hown hK hP hD hS 0 rfl rfl 0 (by decide) (ha _ kf_X3_12) (fun _ h9 => h9) rfl hin rfl (by decide +kernel) rfl rfl (Nat.le_of_ble_eq_true rfl) dX3_init_14 (fun H locs hP hD hS => ?_)
  have hP : va_P D vwCl [(h0, .inr (3, [.ref q_1, .null])), (q_1, .inr (8, [.int n0, .int k0, .int 0, .int 0, .int 0, .int 0, .int 2048, .int 2048, .int 1048576, .int 40, .int 0, .int 0, .int 0, .int 0, .int 0, .int 0, .int 0, .ref q_3, .ref q_4, .ref q_9])), (q_3, .inr (9, [.int 1000, .int 0, .int 0, .int (-1), .int (-1), .int 0])), (q_4, .inr (0, [.ref q_5, .ref q_7, .int 0, .int (-1)])), (q_5, mkC q_6), (q_6, .inl (cJ, 4, .inr (.inl (fun _ => 0)))), (q_7, mkC q_8), (q_8, .inl (cJ, 4, .inr (.inl (fun _ => 0)))), (q_9, .inr (2, [.int 0, .int 0, .int (-1), .int 0, .int 0]))] H := hP
  have hD : va_D A [(h0, .inr (3, [.ref q_1, .null])), (q_1, .inr (8, [.int n0, .int k0, .int 0, .int 0, .int 0, .int 0, .int 2048, .int 2048, .int 1048576, .int 40, .int 0, .int 0, .int 0, .int 0, .int 0, .int 0, .int 0, .ref q_3, .ref q_4, .ref q_9])), (q_3, .inr (9, [.int 1000, .int 0, .int 0, .int (-1), .int (-1), .int 0])), (q_4, .inr (0, [.ref q_5, .ref q_7, .int 0, .int (-1)])), (q_5, mkC q_6), (q_6, .inl (cJ, 4, .inr (.inl (fun _ => 0)))), (q_7, mkC q_8), (q_8, .inl (cJ, 4, .inr (.inl (fun _ => 0)))), (q_9, .inr (2, [.int 0, .int 0, .int (-1), .int 0, .int 0]))] := hD
  refine lv_aload_n hx hb dX3_init_17 rfl (lv_at hl 0 rfl) ?_
  refine va_new (ci := 6) (fs := [.int 0, .int 0, .int 0, .int 0, .null, .int 0, .int 0, .int 0, .int 0, .int 0, .int 0]) (C := RX6) (T := TX6) (N := 11) hx hb ha inlX6 tyX6 tyX6_ok hown (ha _ kc_X3_18) (ha _ ki_X6) (ha _ kz_X6) hK hP hD hS hA rfl (by decide) (Nat.le_of_ble_eq_true rfl) (Nat.le_of_ble_eq_true rfl) dX3_init_18 (fun q_10 H hP hD hS => ?_)
  have hP : va_P D vwCl [(h0, .inr (3, [.ref q_1, .null])), (q_1, .inr (8, [.int n0, .int k0, .int 0, .int 0, .int 0, .int 0, .int 2048, .int 2048, .int 1048576, .int 40, .int 0, .int 0, .int 0, .int 0, .int 0, .int 0, .int 0, .ref q_3, .ref q_4, .ref q_9])), (q_3, .inr (9, [.int 1000, .int 0, .int 0, .int (-1), .int (-1), .int 0])), (q_4, .inr (0, [.ref q_5, .ref q_7, .int 0, .int (-1)])), (q_5, mkC q_6), (q_6, .inl (cJ, 4, .inr (.inl (fun _ => 0)))), (q_7, mkC q_8), (q_8, .inl (cJ, 4, .inr (.inl (fun _ => 0)))), (q_9, .inr (2, [.int 0, .int 0, .int (-1), .int 0, .int 0])), (q_10, .inr (6, [.int 0, .int 0, .int 0, .int 0, .null, .int 0, .int 0, .int 0, .int 0, .int 0, .int 0]))] H := hP
  have hD : va_D A [(h0, .inr (3, [.ref q_1, .null])), (q_1, .inr (8, [.int n0, .int k0, .int 0, .int 0, .int 0, .int 0, .int 2048, .int 2048, .int 1048576, .int 40, .int 0, .int 0, .int 0, .int 0, .int 0, .int 0, .int 0, .ref q_3, .ref q_4, .ref q_9])), (q_3, .inr (9, [.int 1000, .int 0, .int 0, .int (-1), .int (-1), .int 0])), (q_4, .inr (0, [.ref q_5, .ref q_7, .int 0, .int (-1)])), (q_5, mkC q_6), (q_6, .inl (cJ, 4, .inr (.inl (fun _ => 0)))), (q_7, mkC q_8), (q_8, .inl (cJ, 4, .inr (.inl (fun _ => 0)))), (q_9, .inr (2, [.int 0, .int 0, .int (-1), .int 0, .int 0])), (q_10, .inr (6, [.int 0, .int 0, .int 0, .int 0, .null, .int 0, .int 0, .int 0, .int 0, .int 0, .int 0]))] := hD
  refine W.widen (k := 9) (n := 56) (Nat.le_of_ble_eq_true rfl) (Nat.le_of_ble_eq_true rfl) ?_
  refine lv_dup hx hb dX3_init_21 rfl ?_
  refine lv_iload_n hx hb dX3_init_22 rfl (lv_at hl 1 rfl) ?_
  refine lv_iload_n hx hb dX3_init_23 rfl (lv_at hl 3 rfl) ?_
  have hPc := hP.sub (ws' := [(q_10, .inr (6, [.int 0, .int 0, .int 0, .int 0, .null, .int 0, .int 0, .int 0, .int 0, .int 0, .int 0]))]) [9] rfl
  have hDc := hD.sub (ws' := [(q_10, .inr (6, [.int 0, .int 0, .int 0, .int 0, .null, .int 0, .int 0, .int 0, .int 0, .int 0, .int 0]))]) [9] (by decide) rfl
  have hFc := va_free (wc := [(q_10, .inr (6, [.int 0, .int 0, .int 0, .int 0, .null, .int 0, .int 0, .int 0, .int 0, .int 0, .int 0]))]) hD hS hA [9] rfl
  refine va_callv (va_runI (As := [.int n0, .int b0]) (rest := [.ref q_10, .ref h0]) ⟨hx, hb, hml, hown, ha⟩ (c_Receiver l D cI cJ cZ cO _ q_10 n0 b0 hz) (cwI 2 ha (gaI kd_X6_init) rfl rfl rfl (ha _ kz_X6) (ha _ kl_X3_20) (ha _ km_X6_init) rfl (by decide +kernel) ⟨Nat.le_of_ble_eq_true rfl, Nat.le_of_ble_eq_true rfl⟩) ⟨pw_blind, fun U hU hW => ⟨rfl, pw_start hU hW hPc hK hDc hN⟩⟩ rfl rfl hl.1 rfl (lv_room (Nat.le_of_ble_eq_true rfl)) dX3_init_24 ⟨Nat.le_of_ble_eq_true rfl, Nat.le_of_ble_eq_true rfl⟩) hS (fun q _ h => hFc q h) hFc (fun u t H1 locs ht hvm hw hB hz1 hk1 hS => ?_)
  obtain ⟨q_12, q_13, hP1, hK1, hD1⟩ := hB
  rw [ht] at hP1
  obtain ⟨hP, hD⟩ := va_join (wr := [(h0, .inr (3, [.ref q_1, .null])), (q_1, .inr (8, [.int n0, .int k0, .int 0, .int 0, .int 0, .int 0, .int 2048, .int 2048, .int 1048576, .int 40, .int 0, .int 0, .int 0, .int 0, .int 0, .int 0, .int 0, .ref q_3, .ref q_4, .ref q_9])), (q_3, .inr (9, [.int 1000, .int 0, .int 0, .int (-1), .int (-1), .int 0])), (q_4, .inr (0, [.ref q_5, .ref q_7, .int 0, .int (-1)])), (q_5, mkC q_6), (q_6, .inl (cJ, 4, .inr (.inl (fun _ => 0)))), (q_7, mkC q_8), (q_8, .inl (cJ, 4, .inr (.inl (fun _ => 0)))), (q_9, .inr (2, [.int 0, .int 0, .int (-1), .int 0, .int 0]))]) (w1 := [(q_10, .inr (6, [.int n0, .int b0, .int 0, .int 40, .ref q_12, .int 0, .int 0, .int 0, .int 0, .int (-1), .int 0])), (q_12, mkC q_13), (q_13, .inl (cJ, 4, .inr (.inl (fun _ => 0))))]) hP hD [9] [0, 1, 2, 3, 4, 5, 6, 7, 8] rfl rfl (by decide) (by decide) hk1 hFc hP1 hD1
  generalize H1 = H at hP hS ⊢
  have hP : va_P D vwCl [(h0, .inr (3, [.ref q_1, .null])), (q_1, .inr (8, [.int n0, .int k0, .int 0, .int 0, .int 0, .int 0, .int 2048, .int 2048, .int 1048576, .int 40, .int 0, .int 0, .int 0, .int 0, .int 0, .int 0, .int 0, .ref q_3, .ref q_4, .ref q_9])), (q_3, .inr (9, [.int 1000, .int 0, .int 0, .int (-1), .int (-1), .int 0])), (q_4, .inr (0, [.ref q_5, .ref q_7, .int 0, .int (-1)])), (q_5, mkC q_6), (q_6, .inl (cJ, 4, .inr (.inl (fun _ => 0)))), (q_7, mkC q_8), (q_8, .inl (cJ, 4, .inr (.inl (fun _ => 0)))), (q_9, .inr (2, [.int 0, .int 0, .int (-1), .int 0, .int 0])), (q_10, .inr (6, [.int n0, .int b0, .int 0, .int 40, .ref q_12, .int 0, .int 0, .int 0, .int 0, .int (-1), .int 0])), (q_12, mkC q_13), (q_13, .inl (cJ, 4, .inr (.inl (fun _ => 0))))] H := hP
  have hD : va_D A [(h0, .inr (3, [.ref q_1, .null])), (q_1, .inr (8, [.int n0, .int k0, .int 0, .int 0, .int 0, .int 0, .int 2048, .int 2048, .int 1048576, .int 40, .int 0, .int 0, .int 0, .int 0, .int 0, .int 0, .int 0, .ref q_3, .ref q_4, .ref q_9])), (q_3, .inr (9, [.int 1000, .int 0, .int 0, .int (-1), .int (-1), .int 0])), (q_4, .inr (0, [.ref q_5, .ref q_7, .int 0, .int (-1)])), (q_5, mkC q_6), (q_6, .inl (cJ, 4, .inr (.inl (fun _ => 0)))), (q_7, mkC q_8), (q_8, .inl (cJ, 4, .inr (.inl (fun _ => 0)))), (q_9, .inr (2, [.int 0, .int 0, .int (-1), .int 0, .int 0])), (q_10, .inr (6, [.int n0, .int b0, .int 0, .int 40, .ref q_12, .int 0, .int 0, .int 0, .int 0, .int (-1), .int 0])), (q_12, mkC q_13), (q_13, .inl (cJ, 4, .inr (.inl (fun _ => 0))))] := hD
  refine W.widen (k := 11) (n := 61) (Nat.le_of_ble_eq_true rfl) (Nat.le_of_ble_eq_true rfl) ?_
  refine va_putF (D := D) (ci := 3) (v := .ref q_10) (ty := .object "CongestionBench$Receiver") (C := RX3) (T := TX3) (N := 2) hx hb ha inlX3 tyX3 tyX3_ok nmX3 hown hK hP hD hS 0 rfl rfl 1 (by decide) (ha _ kf_X3_23) (fun _ h9 => h9) rfl hin rfl (by decide +kernel) rfl rfl (Nat.le_of_ble_eq_true rfl) dX3_init_27 (fun H locs hP hD hS => ?_)
  have hP : va_P D vwCl [(h0, fwC q_1 q_10), (q_1, .inr (8, [.int n0, .int k0, .int 0, .int 0, .int 0, .int 0, .int 2048, .int 2048, .int 1048576, .int 40, .int 0, .int 0, .int 0, .int 0, .int 0, .int 0, .int 0, .ref q_3, .ref q_4, .ref q_9])), (q_3, .inr (9, [.int 1000, .int 0, .int 0, .int (-1), .int (-1), .int 0])), (q_4, .inr (0, [.ref q_5, .ref q_7, .int 0, .int (-1)])), (q_5, mkC q_6), (q_6, .inl (cJ, 4, .inr (.inl (fun _ => 0)))), (q_7, mkC q_8), (q_8, .inl (cJ, 4, .inr (.inl (fun _ => 0)))), (q_9, .inr (2, [.int 0, .int 0, .int (-1), .int 0, .int 0])), (q_10, .inr (6, [.int n0, .int b0, .int 0, .int 40, .ref q_12, .int 0, .int 0, .int 0, .int 0, .int (-1), .int 0])), (q_12, mkC q_13), (q_13, .inl (cJ, 4, .inr (.inl (fun _ => 0))))] H := hP
  have hD : va_D A [(h0, fwC q_1 q_10), (q_1, .inr (8, [.int n0, .int k0, .int 0, .int 0, .int 0, .int 0, .int 2048, .int 2048, .int 1048576, .int 40, .int 0, .int 0, .int 0, .int 0, .int 0, .int 0, .int 0, .ref q_3, .ref q_4, .ref q_9])), (q_3, .inr (9, [.int 1000, .int 0, .int 0, .int (-1), .int (-1), .int 0])), (q_4, .inr (0, [.ref q_5, .ref q_7, .int 0, .int (-1)])), (q_5, mkC q_6), (q_6, .inl (cJ, 4, .inr (.inl (fun _ => 0)))), (q_7, mkC q_8), (q_8, .inl (cJ, 4, .inr (.inl (fun _ => 0)))), (q_9, .inr (2, [.int 0, .int 0, .int (-1), .int 0, .int 0])), (q_10, .inr (6, [.int n0, .int b0, .int 0, .int 40, .ref q_12, .int 0, .int 0, .int 0, .int 0, .int (-1), .int 0])), (q_12, mkC q_13), (q_13, .inl (cJ, 4, .inr (.inl (fun _ => 0))))] := hD
  have hP9 := hP.sub (ws' := [(h0, fwC q_1 q_10), (q_1, .inr (8, [.int n0, .int k0, .int 0, .int 0, .int 0, .int 0, .int 2048, .int 2048, .int 1048576, .int 40, .int 0, .int 0, .int 0, .int 0, .int 0, .int 0, .int 0, .ref q_3, .ref q_4, .ref q_9])), (q_3, .inr (9, [.int 1000, .int 0, .int 0, .int (-1), .int (-1), .int 0])), (q_4, .inr (0, [.ref q_5, .ref q_7, .int 0, .int (-1)])), (q_5, mkC q_6), (q_6, .inl (cJ, 4, .inr (.inl (fun _ => 0)))), (q_7, mkC q_8), (q_8, .inl (cJ, 4, .inr (.inl (fun _ => 0)))), (q_9, .inr (2, [.int 0, .int 0, .int (-1), .int 0, .int 0])), (q_10, .inr (6, [.int n0, .int b0, .int 0, .int 40, .ref q_12, .int 0, .int 0, .int 0, .int 0, .int (-1), .int 0])), (q_12, mkC q_13), (q_13, .inl (cJ, 4, .inr (.inl (fun _ => 0))))]) [0, 1, 2, 3, 4, 5, 6, 7, 8, 9, 10, 11] rfl
  have hD9 := hD.sub (ws' := [(h0, fwC q_1 q_10), (q_1, .inr (8, [.int n0, .int k0, .int 0, .int 0, .int 0, .int 0, .int 2048, .int 2048, .int 1048576, .int 40, .int 0, .int 0, .int 0, .int 0, .int 0, .int 0, .int 0, .ref q_3, .ref q_4, .ref q_9])), (q_3, .inr (9, [.int 1000, .int 0, .int 0, .int (-1), .int (-1), .int 0])), (q_4, .inr (0, [.ref q_5, .ref q_7, .int 0, .int (-1)])), (q_5, mkC q_6), (q_6, .inl (cJ, 4, .inr (.inl (fun _ => 0)))), (q_7, mkC q_8), (q_8, .inl (cJ, 4, .inr (.inl (fun _ => 0)))), (q_9, .inr (2, [.int 0, .int 0, .int (-1), .int 0, .int 0])), (q_10, .inr (6, [.int n0, .int b0, .int 0, .int 40, .ref q_12, .int 0, .int 0, .int 0, .int 0, .int (-1), .int 0])), (q_12, mkC q_13), (q_13, .inl (cJ, 4, .inr (.inl (fun _ => 0))))]) [0, 1, 2, 3, 4, 5, 6, 7, 8, 9, 10, 11] (by decide) rfl
  exact W.vret hx hb hr (fun t ht hW => ⟨⟨(), rfl, trivial, ⟨q_1, q_3, q_4, q_5, q_6, q_7, q_8, q_9, q_10, q_12, q_13, by rw [ht]; exact hP9, va_K.moved hW.alike hK, hD9⟩⟩, hS.F ht⟩) hS.2.2 dX3_init_30

def adr (a0 a1 a2 a3 a4 a5 a6 a7 a8 a9 a10 a11 : Nat) : Nat → Nat := fun k => match k with
  | 0 => a0
  | 1 => a1
  | 2 => a2
  | 3 => a3
  | 4 => a4
  | 5 => a5
  | 6 => a6
  | 7 => a7
  | 8 => a8
  | 9 => a9
  | 10 => a10
  | _ => a11
def svN : Nat → Int32 := fun k => match k with
  | 6 => 2048
  | 7 => 2048
  | 8 => 1048576
  | 9 => 40
  | _ => 0
def tvN : Nat → Int32 := fun k => match k with
  | 0 => 1000
  | 3 => -1
  | 4 => -1
  | _ => 0
def bvN : Nat → Int32 := fun k => match k with
  | 3 => -1
  | _ => 0
def cvN : Nat → Int32 := fun k => match k with
  | 2 => -1
  | _ => 0
def rvN (b : Int32) : Nat → Int32 := fun k => match k with
  | 1 => b
  | 9 => -1
  | _ => 0
def fxN (a b : Int32) : Nat → Int32 := fun k => match k with
  | 0 => a
  | 1 => b
  | 2 => 0
  | _ => 40
def zJ : Nat → Int64 := fun _ => 0
theorem fls_congrA {cJ : ClassId} {fa fa2 : Nat → Nat → Nat} {FX FX2 : Nat → Nat → Int32} {FV FV2 : Nat → Nat → Nat → Int32} {FJ FJ2 : Nat → Nat → Nat → Int64} : ∀ {n : Nat}, (∀ j, j < n → fa2 j = fa j ∧ FX2 j = FX j ∧ FV2 j = FV j ∧ FJ2 j = FJ j) → fls cJ fa2 FX2 FV2 FJ2 n = fls cJ fa FX FV FJ n
  | 0, _ => rfl
  | n + 1, h => by
    obtain ⟨h1, h2, h3, h4⟩ := h n (by omega)
    rw [fls_succ, fls_succ, fls_congrA (fun j hj => h j (by omega))]
    congr 1
    unfold fcs
    rw [h1, h2, h3, h4]
theorem fls_new {cJ : ClassId} {fa : Nat → Nat → Nat} {FX : Nat → Nat → Int32} {FV : Nat → Nat → Nat → Int32} {FJ : Nat → Nat → Nat → Int64} {n a0 a1 a2 a3 a4 a5 a6 a7 a8 a9 a10 a11 : Nat} {nu ki bb : Int32} : fls cJ (va_up fa n (adr a0 a1 a2 a3 a4 a5 a6 a7 a8 a9 a10 a11)) (va_up FX n (fxN nu ki)) (va_up FV n (fpk svN tvN bvN cvN (rvN bb))) (va_up FJ n (fpj zJ zJ zJ)) (n + 1) = fls cJ fa FX FV FJ n ++ [(a0, fwC a1 a9), (a1, .inr (8, [.int nu, .int ki, .int 0, .int 0, .int 0, .int 0, .int 2048, .int 2048, .int 1048576, .int 40, .int 0, .int 0, .int 0, .int 0, .int 0, .int 0, .int 0, .ref a2, .ref a3, .ref a8])), (a2, .inr (9, [.int 1000, .int 0, .int 0, .int (-1), .int (-1), .int 0])), (a3, .inr (0, [.ref a4, .ref a6, .int 0, .int (-1)])), (a4, mkC a5), (a5, .inl (cJ, 4, .inr (.inl (fun _ => 0)))), (a6, mkC a7), (a7, .inl (cJ, 4, .inr (.inl (fun _ => 0)))), (a8, .inr (2, [.int 0, .int 0, .int (-1), .int 0, .int 0])), (a9, .inr (6, [.int nu, .int bb, .int 0, .int 40, .ref a10, .int 0, .int 0, .int 0, .int 0, .int (-1), .int 0])), (a10, mkC a11), (a11, .inl (cJ, 4, .inr (.inl (fun _ => 0))))] := by
  rw [fls_succ, fls_congrA (fun j hj => ⟨va_up_ne _ _ (by omega), va_up_ne _ _ (by omega), va_up_ne _ _ (by omega), va_up_ne _ _ (by omega)⟩)]
  congr 1
  simp only [fcs, va_up_self]
  rfl
theorem pm_new {X pl R N : va_W} : (((X ++ pl) ++ R) ++ N).Perm (((X ++ N) ++ pl) ++ R) := by
  simp only [List.append_assoc]
  refine List.Perm.append_left X ?_
  rw [← List.append_assoc]
  exact List.perm_append_comm
theorem pm_fin {X Xt ct fo pl R : va_W} (h : X.Perm (Xt ++ (ct ++ fo))) : ((X ++ pl) ++ R).Perm (((Xt ++ pl) ++ (R ++ ct)) ++ fo) := by
  refine (List.Perm.append_right R (List.Perm.append_right pl h)).trans ?_
  simp only [List.append_assoc]
  refine List.Perm.append_left Xt ?_
  have e : ct ++ (fo ++ (pl ++ R)) = (ct ++ fo) ++ (pl ++ R) := by simp only [List.append_assoc]
  rw [e]
  refine List.perm_append_comm.trans ?_
  simp only [List.append_assoc]
  exact List.Perm.refl _
theorem arr_congr {cA : ClassId} {n : Nat} {f g : Nat → Option Nat} (h : ∀ i, i < n → f i = g i) : vp_cell cA (n, .inr (.inr (.inr (.inr f)))) = vp_cell cA (n, .inr (.inr (.inr (.inr g)))) := by
  rw [vp_cell_q, vp_cell_q]
  unfold arrV
  congr 2
  funext j
  show va_rf (f j.val) = va_rf (g j.val)
  rw [h j.val j.isLt]
theorem va_P_arr {D : va_G} {cl : List vw_C} {b : Nat × va_E} {a n : Nat} {cA : ClassId} {f g : Nat → Option Nat} {X : va_W} {H : Heap} (h : va_P D cl (b :: (a, .inl (cA, n, .inr (.inr (.inr (.inr f))))) :: X) H) (e : ∀ i, i < n → f i = g i) : va_P D cl (b :: (a, .inl (cA, n, .inr (.inr (.inr (.inr g))))) :: X) H := fun k q hk => by
  cases k with
  | zero => exact h 0 q hk
  | succ k =>
    cases k with
    | zero =>
      have h1 := h 1 _ rfl
      have h2 : q = (a, .inl (cA, n, .inr (.inr (.inr (.inr g))))) := (Option.some.inj hk).symm
      rw [h2]
      show H[a]? = some (vp_cell cA (n, .inr (.inr (.inr (.inr g)))))
      rw [← arr_congr e]
      exact h1
    | succ k => exact h (k + 2) q hk
theorem va_D_arr {A : Nat → Prop} {b : Nat × va_E} {a : Nat} {e1 e2 : va_E} {X : va_W} (h : va_D A (b :: (a, e1) :: X)) : va_D A (b :: (a, e2) :: X) := by
  obtain ⟨h1, h2⟩ := va_D_iff.mp h
  refine va_D_iff.mpr ⟨?_, fun q hq => ?_⟩
  · rw [List.pairwise_cons, List.pairwise_cons] at h1 ⊢
    refine ⟨fun q hq => ?_, h1.2.1, h1.2.2⟩
    rcases List.mem_cons.mp hq with rfl | m
    · exact h1.1 (a, e1) List.mem_cons_self
    · exact h1.1 q (List.mem_cons_of_mem _ m)
  · rcases List.mem_cons.mp hq with rfl | m
    · exact h2 _ List.mem_cons_self
    · rcases List.mem_cons.mp m with rfl | m
      · exact h2 (a, e1) (List.mem_cons_of_mem _ List.mem_cons_self)
      · exact h2 q (List.mem_cons_of_mem _ (List.mem_cons_of_mem _ m))
def FLW (n : Nat) (k r : Int32) (n2 : Nat) : Prop := (r = -1 ∧ n2 = n ∧ (n = 4 ∨ wi k 0 3 = 0)) ∨ (r = nI n ∧ n2 = n + 1 ∧ n < 4 ∧ ¬ wi k 0 3 = 0)

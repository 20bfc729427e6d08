set_option maxHeartbeats 4000000 in
set_option maxRecDepth 100000 in
theorem c_Marks (l : Launch) (D : va_G) (cI cJ cZ cO : ClassId) (sz : Nat) (h0 : Nat) : Met l yX4_init (wa yX4_init cX4_init 1 none) ({ frames := 1, cells := 1, slots := 4, locals := 20 }) (va_Pc [.ref h0] (pw_s D cI cJ cZ cO sz [(h0, .inr (4, [.null]))])) (va_Qv (fun (_ : Unit) => True) (fun (_ : Unit) (t : State) => ∃ (q1 : Nat), pw_t D cI cJ cZ cO (va_A [(h0, .inr (4, [.null]))] sz) [(h0, mkC q1), (q1, .inl (cJ, 4, .inr (.inl (fun _ => 0))))] t) (va_A [(h0, .inr (4, [.null]))] sz)) 1 4 (va_A [(h0, .inr (4, [.null]))] sz) := by
  refine Met.ofW (cc := cX4_init) (maxL := 1) (ret := none) (by decide) rfl ?_
  intro p e s m args below meth c s₁ B hml hv
  obtain ⟨rfl, hsz, hP, hK, hD0, hN⟩ := hv
  have hx := B.exec
  have hb := B.bytes
  have hr := B.returns
  have hts := atoms_spec (ws := (wa yX4_init cX4_init 1 none)) B.pre
  have ha : ∀ w ∈ wsL_law, w.before _ s = true := fun w h => hts w (List.mem_cons_of_mem _ h)
  have hown : s.vm.findClass RX4 = some m.cls := findClass_of_methodNamed B.named
  have hlocks := B.notSynchronized
  have hin : meth.name = "<init>" := (name_of_methodNamed B.named B.method).1
  subst hsz
  have hD := hD0.self (sz := s.heap.size)
  generalize hAe : va_A [(h0, .inr (4, [.null]))] s.heap.size = A at hD ⊢
  have hA : ∀ q : Nat, s.heap.size ≤ q → A q := fun q h => by rw [← hAe]; exact Or.inr h
  have hS : va_S A s.heap s.heap [] := va_S.rf
  have hP : va_P D vwCl [(h0, .inr (4, [.null]))] s.heap := hP
  have hl := lv_entry ([.ref h0]) (n := 1) (Nat.le_of_ble_eq_true rfl)
  rw [lg_entry_eq]
  generalize (lg_sl ([.ref h0]) ++ List.replicate (1 - (lg_sl ([.ref h0])).length) Slot.unset).toArray = ls at hl ⊢
  have hl : lv_has ls 1 [(0, .ref h0)] := hl
  refine lv_aload_n hx hb dX4_init_0 rfl (lv_at hl 0 rfl) ?_
  refine W.objInit hx hb hown (ha _ kl_X4_1) (ha _ km_obj) (ha _ kd_obj) rfl (by rw [hml]; exact hl.1) rfl dX4_init_1 (Nat.le_of_ble_eq_true rfl) (Nat.le_of_ble_eq_true rfl) ?_
  refine W.eq (g2 := F0 m 4 ls []) rfl ?_
  refine lv_aload_n hx hb dX4_init_4 rfl (lv_at hl 0 rfl) ?_
  refine lv_iconst (v := 4) hx hb dX4_init_5 (by decide) ?_
  refine va_newa (atype := .long) (ty := .long) (N' := 4) (a0 := (4, .inr (.inl (fun _ => 0)))) hx hb (ha _ ka_long) rfl hK hP hD hS hA (fun _ => rfl) (by decide) (by decide +kernel) (Nat.le_of_ble_eq_true rfl) (Nat.le_of_ble_eq_true rfl) (Nat.le_of_ble_eq_true rfl) dX4_init_6 (fun q_1 cA H hK1 hP hD hS => ?_)
  obtain rfl := pw_uq hK1 (i := 1) (j := 4) rfl rfl
  have hP : va_P D vwCl [(h0, .inr (4, [.null])), (q_1, .inl (cJ, 4, .inr (.inl (fun _ => 0))))] H := hP
  have hD : va_D A [(h0, .inr (4, [.null])), (q_1, .inl (cJ, 4, .inr (.inl (fun _ => 0))))] := hD
  refine W.widen (k := 1) (n := 4) (Nat.le_of_ble_eq_true rfl) (Nat.le_of_ble_eq_true rfl) ?_
  refine va_putF (D := D) (ci := 4) (v := .ref q_1) (ty := .array .long) (C := RX4) (T := TX4) (N := 1) hx hb ha inlX4 tyX4 tyX4_ok nmX4 hown hK hP hD hS 0 rfl rfl 0 (by decide) (ha _ kf_X4_7) (fun _ h9 => h9) rfl hin rfl (by decide +kernel) rfl rfl (Nat.le_of_ble_eq_true rfl) dX4_init_8 (fun H locs hP hD hS => ?_)
  have hP : va_P D vwCl [(h0, mkC q_1), (q_1, .inl (cJ, 4, .inr (.inl (fun _ => 0))))] H := hP
  have hD : va_D A [(h0, mkC q_1), (q_1, .inl (cJ, 4, .inr (.inl (fun _ => 0))))] := hD
  have hP9 := hP.sub (ws' := [(h0, mkC q_1), (q_1, .inl (cJ, 4, .inr (.inl (fun _ => 0))))]) [0, 1] rfl
  have hD9 := hD.sub (ws' := [(h0, mkC q_1), (q_1, .inl (cJ, 4, .inr (.inl (fun _ => 0))))]) [0, 1] (by decide) rfl
  exact W.vret hx hb hr (fun t ht hW => ⟨⟨(), rfl, trivial, ⟨q_1, by rw [ht]; exact hP9, va_K.moved hW.alike hK, hD9⟩⟩, hS.F ht⟩) hS.2.2 dX4_init_11

set_option maxHeartbeats 4000000 in
set_option maxRecDepth 100000 in
theorem c_Chain (l : Launch) (D : va_G) (cI cJ cZ cO : ClassId) (sz : Nat) (h0 : Nat) : Met l yX1_init (wa yX1_init cX1_init 1 none) ({ frames := 1, cells := 0, slots := 0, locals := 20 }) (va_Pc [.ref h0] (pw_s D cI cJ cZ cO sz [(h0, .inr (1, [.null, .null, .int 0]))])) (va_Qv (fun (_ : Unit) => True) (fun (_ : Unit) (t : State) => pw_t D cI cJ cZ cO (va_A [(h0, .inr (1, [.null, .null, .int 0]))] sz) [(h0, .inr (1, [.null, .null, .int 0]))] t) (va_A [(h0, .inr (1, [.null, .null, .int 0]))] sz)) 0 0 (va_A [(h0, .inr (1, [.null, .null, .int 0]))] sz) := by
  refine Met.ofW (cc := cX1_init) (maxL := 1) (ret := none) (by decide) rfl ?_
  intro p e s m args below meth c s₁ B hml hv
  obtain ⟨rfl, hsz, hP, hK, hD0, hN⟩ := hv
  have hx := B.exec
  have hb := B.bytes
  have hr := B.returns
  have hts := atoms_spec (ws := (wa yX1_init cX1_init 1 none)) B.pre
  have ha : ∀ w ∈ wsL_law, w.before _ s = true := fun w h => hts w (List.mem_cons_of_mem _ h)
  have hown : s.vm.findClass RX1 = some m.cls := findClass_of_methodNamed B.named
  have hlocks := B.notSynchronized
  have hin : meth.name = "<init>" := (name_of_methodNamed B.named B.method).1
  subst hsz
  have hD := hD0.self (sz := s.heap.size)
  generalize hAe : va_A [(h0, .inr (1, [.null, .null, .int 0]))] s.heap.size = A at hD ⊢
  have hA : ∀ q : Nat, s.heap.size ≤ q → A q := fun q h => by rw [← hAe]; exact Or.inr h
  have hS : va_S A s.heap s.heap [] := va_S.rf
  have hP : va_P D vwCl [(h0, .inr (1, [.null, .null, .int 0]))] s.heap := hP
  have hl := lv_entry ([.ref h0]) (n := 1) (Nat.le_of_ble_eq_true rfl)
  rw [lg_entry_eq]
  generalize (lg_sl ([.ref h0]) ++ List.replicate (1 - (lg_sl ([.ref h0])).length) Slot.unset).toArray = ls at hl ⊢
  have hl : lv_has ls 1 [(0, .ref h0)] := hl
  refine lv_aload_n hx hb dX1_init_0 rfl (lv_at hl 0 rfl) ?_
  refine W.objInit hx hb hown (ha _ kl_X1_3) (ha _ km_obj) (ha _ kd_obj) rfl (by rw [hml]; exact hl.1) rfl dX1_init_1 (Nat.le_of_ble_eq_true rfl) (Nat.le_of_ble_eq_true rfl) ?_
  refine W.eq (g2 := F0 m 4 ls []) rfl ?_
  have hP9 := hP.sub (ws' := [(h0, .inr (1, [.null, .null, .int 0]))]) [0] rfl
  have hD9 := hD.sub (ws' := [(h0, .inr (1, [.null, .null, .int 0]))]) [0] (by decide) rfl
  exact W.vret hx hb hr (fun t ht hW => ⟨⟨(), rfl, trivial, ⟨by rw [ht]; exact hP9, va_K.moved hW.alike hK, hD9⟩⟩, hS.F ht⟩) hS.2.2 dX1_init_4

set_option maxHeartbeats 4000000 in
set_option maxRecDepth 100000 in
theorem c_Timer (l : Launch) (D : va_G) (cI cJ cZ cO : ClassId) (sz : Nat) (h0 : Nat) : Met l yX9_init (wa yX9_init cX9_init 1 none) ({ frames := 1, cells := 0, slots := 0, locals := 20 }) (va_Pc [.ref h0] (pw_s D cI cJ cZ cO sz [(h0, .inr (9, [.int 0, .int 0, .int 0, .int 0, .int 0, .int 0]))])) (va_Qv (fun (_ : Unit) => True) (fun (_ : Unit) (t : State) => pw_t D cI cJ cZ cO (va_A [(h0, .inr (9, [.int 0, .int 0, .int 0, .int 0, .int 0, .int 0]))] sz) [(h0, .inr (9, [.int 1000, .int 0, .int 0, .int (-1), .int (-1), .int 0]))] t) (va_A [(h0, .inr (9, [.int 0, .int 0, .int 0, .int 0, .int 0, .int 0]))] sz)) 0 0 (va_A [(h0, .inr (9, [.int 0, .int 0, .int 0, .int 0, .int 0, .int 0]))] sz) := by
  refine Met.ofW (cc := cX9_init) (maxL := 1) (ret := none) (by decide) rfl ?_
  intro p e s m args below meth c s₁ B hml hv
  obtain ⟨rfl, hsz, hP, hK, hD0, hN⟩ := hv
  have hx := B.exec
  have hb := B.bytes
  have hr := B.returns
  have hts := atoms_spec (ws := (wa yX9_init cX9_init 1 none)) B.pre
  have ha : ∀ w ∈ wsL_law, w.before _ s = true := fun w h => hts w (List.mem_cons_of_mem _ h)
  have hown : s.vm.findClass RX9 = some m.cls := findClass_of_methodNamed B.named
  have hlocks := B.notSynchronized
  have hin : meth.name = "<init>" := (name_of_methodNamed B.named B.method).1
  subst hsz
  have hD := hD0.self (sz := s.heap.size)
  generalize hAe : va_A [(h0, .inr (9, [.int 0, .int 0, .int 0, .int 0, .int 0, .int 0]))] s.heap.size = A at hD ⊢
  have hA : ∀ q : Nat, s.heap.size ≤ q → A q := fun q h => by rw [← hAe]; exact Or.inr h
  have hS : va_S A s.heap s.heap [] := va_S.rf
  have hP : va_P D vwCl [(h0, .inr (9, [.int 0, .int 0, .int 0, .int 0, .int 0, .int 0]))] s.heap := hP
  have hl := lv_entry ([.ref h0]) (n := 1) (Nat.le_of_ble_eq_true rfl)
  rw [lg_entry_eq]
  generalize (lg_sl ([.ref h0]) ++ List.replicate (1 - (lg_sl ([.ref h0])).length) Slot.unset).toArray = ls at hl ⊢
  have hl : lv_has ls 1 [(0, .ref h0)] := hl
  refine lv_aload_n hx hb dX9_init_0 rfl (lv_at hl 0 rfl) ?_
  refine W.objInit hx hb hown (ha _ kl_X9_3) (ha _ km_obj) (ha _ kd_obj) rfl (by rw [hml]; exact hl.1) rfl dX9_init_1 (Nat.le_of_ble_eq_true rfl) (Nat.le_of_ble_eq_true rfl) ?_
  refine W.eq (g2 := F0 m 4 ls []) rfl ?_
  refine lv_aload_n hx hb dX9_init_4 rfl (lv_at hl 0 rfl) ?_
  refine lv_sipush (v := 1000) hx hb dX9_init_5 (by decide) ?_
  refine va_put (D := D) (ci := 9) (v := .int 1000) (ty := .int) (C := RX9) (T := TX9) (N := 6) hx hb ha inlX9 tyX9 tyX9_ok nmX9 hown hK hP hD hS 0 rfl rfl 0 (by decide) (ha _ kf_X9_9) (fun _ h9 => h9) rfl (by decide +kernel) rfl rfl (Nat.le_of_ble_eq_true rfl) dX9_init_8 (fun H locs hP hD hS => ?_)
  have hP : va_P D vwCl [(h0, .inr (9, [.int 1000, .int 0, .int 0, .int 0, .int 0, .int 0]))] H := hP
  have hD : va_D A [(h0, .inr (9, [.int 1000, .int 0, .int 0, .int 0, .int 0, .int 0]))] := hD
  refine lv_aload_n hx hb dX9_init_11 rfl (lv_at hl 0 rfl) ?_
  refine lv_iconst (v := (-1)) hx hb dX9_init_12 (by decide) ?_
  refine va_put (D := D) (ci := 9) (v := .int (-1)) (ty := .int) (C := RX9) (T := TX9) (N := 6) hx hb ha inlX9 tyX9 tyX9_ok nmX9 hown hK hP hD hS 0 rfl rfl 3 (by decide) (ha _ kf_X9_15) (fun _ h9 => h9) rfl (by decide +kernel) rfl rfl (Nat.le_of_ble_eq_true rfl) dX9_init_13 (fun H locs hP hD hS => ?_)
  have hP : va_P D vwCl [(h0, .inr (9, [.int 1000, .int 0, .int 0, .int (-1), .int 0, .int 0]))] H := hP
  have hD : va_D A [(h0, .inr (9, [.int 1000, .int 0, .int 0, .int (-1), .int 0, .int 0]))] := hD
  refine lv_aload_n hx hb dX9_init_16 rfl (lv_at hl 0 rfl) ?_
  refine lv_iconst (v := (-1)) hx hb dX9_init_17 (by decide) ?_
  refine va_put (D := D) (ci := 9) (v := .int (-1)) (ty := .int) (C := RX9) (T := TX9) (N := 6) hx hb ha inlX9 tyX9 tyX9_ok nmX9 hown hK hP hD hS 0 rfl rfl 4 (by decide) (ha _ kf_X9_18) (fun _ h9 => h9) rfl (by decide +kernel) rfl rfl (Nat.le_of_ble_eq_true rfl) dX9_init_18 (fun H locs hP hD hS => ?_)
  have hP : va_P D vwCl [(h0, .inr (9, [.int 1000, .int 0, .int 0, .int (-1), .int (-1), .int 0]))] H := hP
  have hD : va_D A [(h0, .inr (9, [.int 1000, .int 0, .int 0, .int (-1), .int (-1), .int 0]))] := hD
  have hP9 := hP.sub (ws' := [(h0, .inr (9, [.int 1000, .int 0, .int 0, .int (-1), .int (-1), .int 0]))]) [0] rfl
  have hD9 := hD.sub (ws' := [(h0, .inr (9, [.int 1000, .int 0, .int 0, .int (-1), .int (-1), .int 0]))]) [0] (by decide) rfl
  exact W.vret hx hb hr (fun t ht hW => ⟨⟨(), rfl, trivial, ⟨by rw [ht]; exact hP9, va_K.moved hW.alike hK, hD9⟩⟩, hS.F ht⟩) hS.2.2 dX9_init_21

set_option maxHeartbeats 4000000 in
set_option maxRecDepth 100000 in
theorem c_Cubic (l : Launch) (D : va_G) (cI cJ cZ cO : ClassId) (sz : Nat) (h0 : Nat) : Met l yX2_init (wa yX2_init cX2_init 1 none) ({ frames := 1, cells := 0, slots := 0, locals := 20 }) (va_Pc [.ref h0] (pw_s D cI cJ cZ cO sz [(h0, .inr (2, [.int 0, .int 0, .int 0, .int 0, .int 0]))])) (va_Qv (fun (_ : Unit) => True) (fun (_ : Unit) (t : State) => pw_t D cI cJ cZ cO (va_A [(h0, .inr (2, [.int 0, .int 0, .int 0, .int 0, .int 0]))] sz) [(h0, .inr (2, [.int 0, .int 0, .int (-1), .int 0, .int 0]))] t) (va_A [(h0, .inr (2, [.int 0, .int 0, .int 0, .int 0, .int 0]))] sz)) 0 0 (va_A [(h0, .inr (2, [.int 0, .int 0, .int 0, .int 0, .int 0]))] sz) := by
  refine Met.ofW (cc := cX2_init) (maxL := 1) (ret := none) (by decide) rfl ?_
  intro p e s m args below meth c s₁ B hml hv
  obtain ⟨rfl, hsz, hP, hK, hD0, hN⟩ := hv
  have hx := B.exec
  have hb := B.bytes
  have hr := B.returns
  have hts := atoms_spec (ws := (wa yX2_init cX2_init 1 none)) B.pre
  have ha : ∀ w ∈ wsL_law, w.before _ s = true := fun w h => hts w (List.mem_cons_of_mem _ h)
  have hown : s.vm.findClass RX2 = some m.cls := findClass_of_methodNamed B.named
  have hlocks := B.notSynchronized
  have hin : meth.name = "<init>" := (name_of_methodNamed B.named B.method).1
  subst hsz
  have hD := hD0.self (sz := s.heap.size)
  generalize hAe : va_A [(h0, .inr (2, [.int 0, .int 0, .int 0, .int 0, .int 0]))] s.heap.size = A at hD ⊢
  have hA : ∀ q : Nat, s.heap.size ≤ q → A q := fun q h => by rw [← hAe]; exact Or.inr h
  have hS : va_S A s.heap s.heap [] := va_S.rf
  have hP : va_P D vwCl [(h0, .inr (2, [.int 0, .int 0, .int 0, .int 0, .int 0]))] s.heap := hP
  have hl := lv_entry ([.ref h0]) (n := 1) (Nat.le_of_ble_eq_true rfl)
  rw [lg_entry_eq]
  generalize (lg_sl ([.ref h0]) ++ List.replicate (1 - (lg_sl ([.ref h0])).length) Slot.unset).toArray = ls at hl ⊢
  have hl : lv_has ls 1 [(0, .ref h0)] := hl
  refine lv_aload_n hx hb dX2_init_0 rfl (lv_at hl 0 rfl) ?_
  refine W.objInit hx hb hown (ha _ kl_X2_3) (ha _ km_obj) (ha _ kd_obj) rfl (by rw [hml]; exact hl.1) rfl dX2_init_1 (Nat.le_of_ble_eq_true rfl) (Nat.le_of_ble_eq_true rfl) ?_
  refine W.eq (g2 := F0 m 4 ls []) rfl ?_
  refine lv_aload_n hx hb dX2_init_4 rfl (lv_at hl 0 rfl) ?_
  refine lv_iconst (v := (-1)) hx hb dX2_init_5 (by decide) ?_
  refine va_put (D := D) (ci := 2) (v := .int (-1)) (ty := .int) (C := RX2) (T := TX2) (N := 5) hx hb ha inlX2 tyX2 tyX2_ok nmX2 hown hK hP hD hS 0 rfl rfl 2 (by decide) (ha _ kf_X2_9) (fun _ h9 => h9) rfl (by decide +kernel) rfl rfl (Nat.le_of_ble_eq_true rfl) dX2_init_6 (fun H locs hP hD hS => ?_)
  have hP : va_P D vwCl [(h0, .inr (2, [.int 0, .int 0, .int (-1), .int 0, .int 0]))] H := hP
  have hD : va_D A [(h0, .inr (2, [.int 0, .int 0, .int (-1), .int 0, .int 0]))] := hD
  have hP9 := hP.sub (ws' := [(h0, .inr (2, [.int 0, .int 0, .int (-1), .int 0, .int 0]))]) [0] rfl
  have hD9 := hD.sub (ws' := [(h0, .inr (2, [.int 0, .int 0, .int (-1), .int 0, .int 0]))]) [0] (by decide) rfl
  exact W.vret hx hb hr (fun t ht hW => ⟨⟨(), rfl, trivial, ⟨by rw [ht]; exact hP9, va_K.moved hW.alike hK, hD9⟩⟩, hS.F ht⟩) hS.2.2 dX2_init_9

set_option maxHeartbeats 4000000 in
set_option maxRecDepth 100000 in
theorem c_Board (l : Launch) (D : va_G) (cI cJ cZ cO : ClassId) (sz : Nat) (h0 : Nat) : Met l yX0_init (wa yX0_init cX0_init 1 none) ({ frames := 2, cells := 4, slots := 10, locals := 40 }) (va_Pc [.ref h0] (pw_s D cI cJ cZ cO sz [(h0, .inr (0, [.null, .null, .int 0, .int 0]))])) (va_Qv (fun (_ : Unit) => True) (fun (_ : Unit) (t : State) => ∃ (q1 q2 q3 q4 : Nat), pw_t D cI cJ cZ cO (va_A [(h0, .inr (0, [.null, .null, .int 0, .int 0]))] sz) [(h0, .inr (0, [.ref q1, .ref q3, .int 0, .int (-1)])), (q1, mkC q2), (q2, .inl (cJ, 4, .inr (.inl (fun _ => 0)))), (q3, mkC q4), (q4, .inl (cJ, 4, .inr (.inl (fun _ => 0))))] t) (va_A [(h0, .inr (0, [.null, .null, .int 0, .int 0]))] sz)) 4 10 (va_A [(h0, .inr (0, [.null, .null, .int 0, .int 0]))] sz) := by
  refine Met.ofW (cc := cX0_init) (maxL := 1) (ret := none) (by decide) rfl ?_
  intro p e s m args below meth c s₁ B hml hv
  obtain ⟨rfl, hsz, hP, hK, hD0, hN⟩ := hv
  have hx := B.exec
  have hb := B.bytes
  have hr := B.returns
  have hts := atoms_spec (ws := (wa yX0_init cX0_init 1 none)) B.pre
  have ha : ∀ w ∈ wsL_law, w.before _ s = true := fun w h => hts w (List.mem_cons_of_mem _ h)
  have hown : s.vm.findClass RX0 = some m.cls := findClass_of_methodNamed B.named
  have hlocks := B.notSynchronized
  have hin : meth.name = "<init>" := (name_of_methodNamed B.named B.method).1
  subst hsz
  have hD := hD0.self (sz := s.heap.size)
  generalize hAe : va_A [(h0, .inr (0, [.null, .null, .int 0, .int 0]))] s.heap.size = A at hD ⊢
  have hA : ∀ q : Nat, s.heap.size ≤ q → A q := fun q h => by rw [← hAe]; exact Or.inr h
  have hS : va_S A s.heap s.heap [] := va_S.rf
  have hP : va_P D vwCl [(h0, .inr (0, [.null, .null, .int 0, .int 0]))] s.heap := hP
  have hl := lv_entry ([.ref h0]) (n := 1) (Nat.le_of_ble_eq_true rfl)
  rw [lg_entry_eq]
  generalize (lg_sl ([.ref h0]) ++ List.replicate (1 - (lg_sl ([.ref h0])).length) Slot.unset).toArray = ls at hl ⊢
  have hl : lv_has ls 1 [(0, .ref h0)] := hl
  refine lv_aload_n hx hb dX0_init_0 rfl (lv_at hl 0 rfl) ?_
  refine W.objInit hx hb hown (ha _ kl_X0_3) (ha _ km_obj) (ha _ kd_obj) rfl (by rw [hml]; exact hl.1) rfl dX0_init_1 (Nat.le_of_ble_eq_true rfl) (Nat.le_of_ble_eq_true rfl) ?_
  refine W.eq (g2 := F0 m 4 ls []) rfl ?_
  refine lv_aload_n hx hb dX0_init_4 rfl (lv_at hl 0 rfl) ?_
  refine va_new (ci := 4) (fs := [.null]) (C := RX4) (T := TX4) (N := 1) hx hb ha inlX4 tyX4 tyX4_ok hown (ha _ kc_X0_9) (ha _ ki_X4) (ha _ kz_X4) hK hP hD hS hA rfl (by decide) (Nat.le_of_ble_eq_true rfl) (Nat.le_of_ble_eq_true rfl) dX0_init_5 (fun q_1 H hP hD hS => ?_)
  have hP : va_P D vwCl [(h0, .inr (0, [.null, .null, .int 0, .int 0])), (q_1, .inr (4, [.null]))] H := hP
  have hD : va_D A [(h0, .inr (0, [.null, .null, .int 0, .int 0])), (q_1, .inr (4, [.null]))] := hD
  refine W.widen (k := 1) (n := 1) (Nat.le_of_ble_eq_true rfl) (Nat.le_of_ble_eq_true rfl) ?_
  refine lv_dup hx hb dX0_init_8 rfl ?_
  have hPc := hP.sub (ws' := [(q_1, .inr (4, [.null]))]) [1] rfl
  have hDc := hD.sub (ws' := [(q_1, .inr (4, [.null]))]) [1] (by decide) rfl
  have hFc := va_free (wc := [(q_1, .inr (4, [.null]))]) hD hS hA [1] rfl
  refine va_callv (va_runIN (As := []) (rest := [.ref q_1, .ref h0]) ⟨hx, hb, hml, hown, ha⟩ (c_Marks l D cI cJ cZ cO _ q_1) ⟨va_cnB 0 ha (gaI kd_X4_init) rfl rfl rfl (hN.m RX0 11 yX4_init "CongestionBench" (by decide +kernel)) (ha _ kz_X4) (by decide +kernel) ⟨Nat.le_of_ble_eq_true rfl, Nat.le_of_ble_eq_true rfl⟩, rfl, ha _ km_X4_init⟩ ⟨pw_blind, fun U hU hW => ⟨rfl, pw_start hU hW hPc hK hDc hN⟩⟩ rfl rfl hl.1 rfl (lv_room (Nat.le_of_ble_eq_true rfl)) dX0_init_9 ⟨Nat.le_of_ble_eq_true rfl, Nat.le_of_ble_eq_true rfl⟩) hS (fun q _ h => hFc q h) hFc (fun u t H1 locs ht hvm hw hB hz1 hk1 hS => ?_)
  obtain ⟨q_3, hP1, hK1, hD1⟩ := hB
  rw [ht] at hP1
  obtain ⟨hP, hD⟩ := va_join (wr := [(h0, .inr (0, [.null, .null, .int 0, .int 0]))]) (w1 := [(q_1, mkC q_3), (q_3, .inl (cJ, 4, .inr (.inl (fun _ => 0))))]) hP hD [1] [0] rfl rfl (by decide) (by decide) hk1 hFc hP1 hD1
  generalize H1 = H at hP hS ⊢
  have hP : va_P D vwCl [(h0, .inr (0, [.null, .null, .int 0, .int 0])), (q_1, mkC q_3), (q_3, .inl (cJ, 4, .inr (.inl (fun _ => 0))))] H := hP
  have hD : va_D A [(h0, .inr (0, [.null, .null, .int 0, .int 0])), (q_1, mkC q_3), (q_3, .inl (cJ, 4, .inr (.inl (fun _ => 0))))] := hD
  refine W.widen (k := 2) (n := 5) (Nat.le_of_ble_eq_true rfl) (Nat.le_of_ble_eq_true rfl) ?_
  refine va_putF (D := D) (ci := 0) (v := .ref q_1) (ty := .object "CongestionBench$Marks") (C := RX0) (T := TX0) (N := 4) hx hb ha inlX0 tyX0 tyX0_ok nmX0 hown hK hP hD hS 0 rfl rfl 0 (by decide) (ha _ kf_X0_12) (fun _ h9 => h9) rfl hin rfl (by decide +kernel) rfl rfl (Nat.le_of_ble_eq_true rfl) dX0_init_12 (fun H locs hP hD hS => ?_)
  have hP : va_P D vwCl [(h0, .inr (0, [.ref q_1, .null, .int 0, .int 0])), (q_1, mkC q_3), (q_3, .inl (cJ, 4, .inr (.inl (fun _ => 0))))] H := hP
  have hD : va_D A [(h0, .inr (0, [.ref q_1, .null, .int 0, .int 0])), (q_1, mkC q_3), (q_3, .inl (cJ, 4, .inr (.inl (fun _ => 0))))] := hD
  refine lv_aload_n hx hb dX0_init_15 rfl (lv_at hl 0 rfl) ?_
  refine va_new (ci := 4) (fs := [.null]) (C := RX4) (T := TX4) (N := 1) hx hb ha inlX4 tyX4 tyX4_ok hown (ha _ kc_X0_9) (ha _ ki_X4) (ha _ kz_X4) hK hP hD hS hA rfl (by decide) (Nat.le_of_ble_eq_true rfl) (Nat.le_of_ble_eq_true rfl) dX0_init_16 (fun q_4 H hP hD hS => ?_)
  have hP : va_P D vwCl [(h0, .inr (0, [.ref q_1, .null, .int 0, .int 0])), (q_1, mkC q_3), (q_3, .inl (cJ, 4, .inr (.inl (fun _ => 0)))), (q_4, .inr (4, [.null]))] H := hP
  have hD : va_D A [(h0, .inr (0, [.ref q_1, .null, .int 0, .int 0])), (q_1, mkC q_3), (q_3, .inl (cJ, 4, .inr (.inl (fun _ => 0)))), (q_4, .inr (4, [.null]))] := hD
  refine W.widen (k := 3) (n := 6) (Nat.le_of_ble_eq_true rfl) (Nat.le_of_ble_eq_true rfl) ?_
  refine lv_dup hx hb dX0_init_19 rfl ?_
  have hPc := hP.sub (ws' := [(q_4, .inr (4, [.null]))]) [3] rfl
  have hDc := hD.sub (ws' := [(q_4, .inr (4, [.null]))]) [3] (by decide) rfl
  have hFc := va_free (wc := [(q_4, .inr (4, [.null]))]) hD hS hA [3] rfl
  refine va_callv (va_runIN (As := []) (rest := [.ref q_4, .ref h0]) ⟨hx, hb, hml, hown, ha⟩ (c_Marks l D cI cJ cZ cO _ q_4) ⟨va_cnB 0 ha (gaI kd_X4_init) rfl rfl rfl (hN.m RX0 11 yX4_init "CongestionBench" (by decide +kernel)) (ha _ kz_X4) (by decide +kernel) ⟨Nat.le_of_ble_eq_true rfl, Nat.le_of_ble_eq_true rfl⟩, rfl, ha _ km_X4_init⟩ ⟨pw_blind, fun U hU hW => ⟨rfl, pw_start hU hW hPc hK hDc hN⟩⟩ rfl rfl hl.1 rfl (lv_room (Nat.le_of_ble_eq_true rfl)) dX0_init_20 ⟨Nat.le_of_ble_eq_true rfl, Nat.le_of_ble_eq_true rfl⟩) hS (fun q _ h => hFc q h) hFc (fun u t H1 locs ht hvm hw hB hz1 hk1 hS => ?_)
  obtain ⟨q_6, hP1, hK1, hD1⟩ := hB
  rw [ht] at hP1
  obtain ⟨hP, hD⟩ := va_join (wr := [(h0, .inr (0, [.ref q_1, .null, .int 0, .int 0])), (q_1, mkC q_3), (q_3, .inl (cJ, 4, .inr (.inl (fun _ => 0))))]) (w1 := [(q_4, mkC q_6), (q_6, .inl (cJ, 4, .inr (.inl (fun _ => 0))))]) hP hD [3] [0, 1, 2] rfl rfl (by decide) (by decide) hk1 hFc hP1 hD1
  generalize H1 = H at hP hS ⊢
  have hP : va_P D vwCl [(h0, .inr (0, [.ref q_1, .null, .int 0, .int 0])), (q_1, mkC q_3), (q_3, .inl (cJ, 4, .inr (.inl (fun _ => 0)))), (q_4, mkC q_6), (q_6, .inl (cJ, 4, .inr (.inl (fun _ => 0))))] H := hP
  have hD : va_D A [(h0, .inr (0, [.ref q_1, .null, .int 0, .int 0])), (q_1, mkC q_3), (q_3, .inl (cJ, 4, .inr (.inl (fun _ => 0)))), (q_4, mkC q_6), (q_6, .inl (cJ, 4, .inr (.inl (fun _ => 0))))] := hD
  refine W.widen (k := 4) (n := 10) (Nat.le_of_ble_eq_true rfl) (Nat.le_of_ble_eq_true rfl) ?_
  refine va_putF (D := D) (ci := 0) (v := .ref q_4) (ty := .object "CongestionBench$Marks") (C := RX0) (T := TX0) (N := 4) hx hb ha inlX0 tyX0 tyX0_ok nmX0 hown hK hP hD hS 0 rfl rfl 1 (by decide) (ha _ kf_X0_18) (fun _ h9 => h9) rfl hin rfl (by decide +kernel) rfl rfl (Nat.le_of_ble_eq_true rfl) dX0_init_23 (fun H locs hP hD hS => ?_)
  have hP : va_P D vwCl [(h0, .inr (0, [.ref q_1, .ref q_4, .int 0, .int 0])), (q_1, mkC q_3), (q_3, .inl (cJ, 4, .inr (.inl (fun _ => 0)))), (q_4, mkC q_6), (q_6, .inl (cJ, 4, .inr (.inl (fun _ => 0))))] H := hP
  have hD : va_D A [(h0, .inr (0, [.ref q_1, .ref q_4, .int 0, .int 0])), (q_1, mkC q_3), (q_3, .inl (cJ, 4, .inr (.inl (fun _ => 0)))), (q_4, mkC q_6), (q_6, .inl (cJ, 4, .inr (.inl (fun _ => 0))))] := hD
  refine lv_aload_n hx hb dX0_init_26 rfl (lv_at hl 0 rfl) ?_
  refine lv_iconst (v := (-1)) hx hb dX0_init_27 (by decide) ?_
  refine va_put (D := D) (ci := 0) (v := .int (-1)) (ty := .int) (C := RX0) (T := TX0) (N := 4) hx hb ha inlX0 tyX0 tyX0_ok nmX0 hown hK hP hD hS 0 rfl rfl 3 (by decide) (ha _ kf_X0_21) (fun _ h9 => h9) rfl (by decide +kernel) rfl rfl (Nat.le_of_ble_eq_true rfl) dX0_init_28 (fun H locs hP hD hS => ?_)
  have hP : va_P D vwCl [(h0, .inr (0, [.ref q_1, .ref q_4, .int 0, .int (-1)])), (q_1, mkC q_3), (q_3, .inl (cJ, 4, .inr (.inl (fun _ => 0)))), (q_4, mkC q_6), (q_6, .inl (cJ, 4, .inr (.inl (fun _ => 0))))] H := hP
  have hD : va_D A [(h0, .inr (0, [.ref q_1, .ref q_4, .int 0, .int (-1)])), (q_1, mkC q_3), (q_3, .inl (cJ, 4, .inr (.inl (fun _ => 0)))), (q_4, mkC q_6), (q_6, .inl (cJ, 4, .inr (.inl (fun _ => 0))))] := hD
  have hP9 := hP.sub (ws' := [(h0, .inr (0, [.ref q_1, .ref q_4, .int 0, .int (-1)])), (q_1, mkC q_3), (q_3, .inl (cJ, 4, .inr (.inl (fun _ => 0)))), (q_4, mkC q_6), (q_6, .inl (cJ, 4, .inr (.inl (fun _ => 0))))]) [0, 1, 2, 3, 4] rfl
  have hD9 := hD.sub (ws' := [(h0, .inr (0, [.ref q_1, .ref q_4, .int 0, .int (-1)])), (q_1, mkC q_3), (q_3, .inl (cJ, 4, .inr (.inl (fun _ => 0)))), (q_4, mkC q_6), (q_6, .inl (cJ, 4, .inr (.inl (fun _ => 0))))]) [0, 1, 2, 3, 4] (by decide) rfl
  exact W.vret hx hb hr (fun t ht hW => ⟨⟨(), rfl, trivial, ⟨q_1, q_3, q_4, q_6, by rw [ht]; exact hP9, va_K.moved hW.alike hK, hD9⟩⟩, hS.F ht⟩) hS.2.2 dX0_init_31

set_option maxHeartbeats 4000000 in
set_option maxRecDepth 100000 in
theorem c_Sender (l : Launch) (D : va_G) (cI cJ cZ cO : ClassId) (sz : Nat) (h0 : Nat) (n0 k0 : Int32) : Met l yX8_init (wa yX8_init cX8_init 3 none) ({ frames := 3, cells := 7, slots := 25, locals := 60 }) (va_Pc [.ref h0, .int n0, .int k0] (pw_s D cI cJ cZ cO sz [(h0, .inr (8, [.int 0, .int 0, .int 0, .int 0, .int 0, .int 0, .int 0, .int 0, .int 0, .int 0, .int 0, .int 0, .int 0, .int 0, .int 0, .int 0, .int 0, .null, .null, .null]))])) (va_Qv (fun (_ : Unit) => True) (fun (_ : Unit) (t : State) => ∃ (q5 q6 q1 q2 q3 q4 q7 : Nat), pw_t D cI cJ cZ cO (va_A [(h0, .inr (8, [.int 0, .int 0, .int 0, .int 0, .int 0, .int 0, .int 0, .int 0, .int 0, .int 0, .int 0, .int 0, .int 0, .int 0, .int 0, .int 0, .int 0, .null, .null, .null]))] sz) [(h0, .inr (8, [.int n0, .int k0, .int 0, .int 0, .int 0, .int 0, .int 2048, .int 2048, .int 1048576, .int 40, .int 0, .int 0, .int 0, .int 0, .int 0, .int 0, .int 0, .ref q5, .ref q6, .ref q7])), (q5, .inr (9, [.int 1000, .int 0, .int 0, .int (-1), .int (-1), .int 0])), (q6, .inr (0, [.ref q1, .ref q3, .int 0, .int (-1)])), (q1, mkC q2), (q2, .inl (cJ, 4, .inr (.inl (fun _ => 0)))), (q3, mkC q4), (q4, .inl (cJ, 4, .inr (.inl (fun _ => 0)))), (q7, .inr (2, [.int 0, .int 0, .int (-1), .int 0, .int 0]))] t) (va_A [(h0, .inr (8, [.int 0, .int 0, .int 0, .int 0, .int 0, .int 0, .int 0, .int 0, .int 0, .int 0, .int 0, .int 0, .int 0, .int 0, .int 0, .int 0, .int 0, .null, .null, .null]))] sz)) 7 25 (va_A [(h0, .inr (8, [.int 0, .int 0, .int 0, .int 0, .int 0, .int 0, .int 0, .int 0, .int 0, .int 0, .int 0, .int 0, .int 0, .int 0, .int 0, .int 0, .int 0, .null, .null, .null]))] sz) := by
  refine Met.ofW (cc := cX8_init) (maxL := 3) (ret := none) (by decide) rfl ?_
  intro p e s m args below meth c s₁ B hml hv
  obtain ⟨rfl, hsz, hP, hK, hD0, hN⟩ := hv
  have hx := B.exec
  have hb := B.bytes
  have hr := B.returns
  have hts := atoms_spec (ws := (wa yX8_init cX8_init 3 none)) B.pre
  have ha : ∀ w ∈ wsL_law, w.before _ s = true := fun w h => hts w (List.mem_cons_of_mem _ h)
  have hown : s.vm.findClass RX8 = some m.cls := findClass_of_methodNamed B.named
  have hlocks := B.notSynchronized
  have hin : meth.name = "<init>" := (name_of_methodNamed B.named B.method).1
  subst hsz
  have hD := hD0.self (sz := s.heap.size)
  generalize hAe : va_A [(h0, .inr (8, [.int 0, .int 0, .int 0, .int 0, .int 0, .int 0, .int 0, .int 0, .int 0, .int 0, .int 0, .int 0, .int 0, .int 0, .int 0, .int 0, .int 0, .null, .null, .null]))] s.heap.size = A at hD ⊢
  have hA : ∀ q : Nat, s.heap.size ≤ q → A q := fun q h => by rw [← hAe]; exact Or.inr h
  have hS : va_S A s.heap s.heap [] := va_S.rf
  have hP : va_P D vwCl [(h0, .inr (8, [.int 0, .int 0, .int 0, .int 0, .int 0, .int 0, .int 0, .int 0, .int 0, .int 0, .int 0, .int 0, .int 0, .int 0, .int 0, .int 0, .int 0, .null, .null, .null]))] s.heap := hP
  have hl := lv_entry ([.ref h0, .int n0, .int k0]) (n := 3) (Nat.le_of_ble_eq_true rfl)
  rw [lg_entry_eq]
  generalize (lg_sl ([.ref h0, .int n0, .int k0]) ++ List.replicate (3 - (lg_sl ([.ref h0, .int n0, .int k0])).length) Slot.unset).toArray = ls at hl ⊢
  have hl : lv_has ls 3 [(0, .ref h0), (1, .int n0), (2, .int k0)] := hl
  refine lv_aload_n hx hb dX8_init_0 rfl (lv_at hl 0 rfl) ?_
  refine W.objInit hx hb hown (ha _ kl_X8_3) (ha _ km_obj) (ha _ kd_obj) rfl (by rw [hml]; exact hl.1) rfl dX8_init_1 (Nat.le_of_ble_eq_true rfl) (Nat.le_of_ble_eq_true rfl) ?_
  refine W.eq (g2 := F0 m 4 ls []) rfl ?_
  refine lv_aload_n hx hb dX8_init_4 rfl (lv_at hl 0 rfl) ?_
  refine lv_sipush (v := 2048) hx hb dX8_init_5 (by decide) ?_
  refine va_put (D := D) (ci := 8) (v := .int 2048) (ty := .int) (C := RX8) (T := TX8) (N := 20) hx hb ha inlX8 tyX8 tyX8_ok nmX8 hown hK hP hD hS 0 rfl rfl 6 (by decide) (ha _ kf_X8_9) (fun _ h9 => h9) rfl (by decide +kernel) rfl rfl (Nat.le_of_ble_eq_true rfl) dX8_init_8 (fun H locs hP hD hS => ?_)
  have hP : va_P D vwCl [(h0, .inr (8, [.int 0, .int 0, .int 0, .int 0, .int 0, .int 0, .int 2048, .int 0, .int 0, .int 0, .int 0, .int 0, .int 0, .int 0, .int 0, .int 0, .int 0, .null, .null, .null]))] H := hP
  have hD : va_D A [(h0, .inr (8, [.int 0, .int 0, .int 0, .int 0, .int 0, .int 0, .int 2048, .int 0, .int 0, .int 0, .int 0, .int 0, .int 0, .int 0, .int 0, .int 0, .int 0, .null, .null, .null]))] := hD
  refine lv_aload_n hx hb dX8_init_11 rfl (lv_at hl 0 rfl) ?_
  refine lv_sipush (v := 2048) hx hb dX8_init_12 (by decide) ?_
  refine va_put (D := D) (ci := 8) (v := .int 2048) (ty := .int) (C := RX8) (T := TX8) (N := 20) hx hb ha inlX8 tyX8 tyX8_ok nmX8 hown hK hP hD hS 0 rfl rfl 7 (by decide) (ha _ kf_X8_15) (fun _ h9 => h9) rfl (by decide +kernel) rfl rfl (Nat.le_of_ble_eq_true rfl) dX8_init_15 (fun H locs hP hD hS => ?_)
  have hP : va_P D vwCl [(h0, .inr (8, [.int 0, .int 0, .int 0, .int 0, .int 0, .int 0, .int 2048, .int 2048, .int 0, .int 0, .int 0, .int 0, .int 0, .int 0, .int 0, .int 0, .int 0, .null, .null, .null]))] H := hP
  have hD : va_D A [(h0, .inr (8, [.int 0, .int 0, .int 0, .int 0, .int 0, .int 0, .int 2048, .int 2048, .int 0, .int 0, .int 0, .int 0, .int 0, .int 0, .int 0, .int 0, .int 0, .null, .null, .null]))] := hD
  refine lv_aload_n hx hb dX8_init_18 rfl (lv_at hl 0 rfl) ?_
  refine lv_ldc (v := 1048576) hx hb hown (ha _ kk_X8_18) dX8_init_19 ?_
  refine va_put (D := D) (ci := 8) (v := .int 1048576) (ty := .int) (C := RX8) (T := TX8) (N := 20) hx hb ha inlX8 tyX8 tyX8_ok nmX8 hown hK hP hD hS 0 rfl rfl 8 (by decide) (ha _ kf_X8_19) (fun _ h9 => h9) rfl (by decide +kernel) rfl rfl (Nat.le_of_ble_eq_true rfl) dX8_init_21 (fun H locs hP hD hS => ?_)
  have hP : va_P D vwCl [(h0, .inr (8, [.int 0, .int 0, .int 0, .int 0, .int 0, .int 0, .int 2048, .int 2048, .int 1048576, .int 0, .int 0, .int 0, .int 0, .int 0, .int 0, .int 0, .int 0, .null, .null, .null]))] H := hP
  have hD : va_D A [(h0, .inr (8, [.int 0, .int 0, .int 0, .int 0, .int 0, .int 0, .int 2048, .int 2048, .int 1048576, .int 0, .int 0, .int 0, .int 0, .int 0, .int 0, .int 0, .int 0, .null, .null, .null]))] := hD
  refine lv_aload_n hx hb dX8_init_24 rfl (lv_at hl 0 rfl) ?_
  refine lv_bipush (v := 40) hx hb dX8_init_25 (by decide) ?_
  refine va_put (D := D) (ci := 8) (v := .int 40) (ty := .int) (C := RX8) (T := TX8) (N := 20) hx hb ha inlX8 tyX8 tyX8_ok nmX8 hown hK hP hD hS 0 rfl rfl 9 (by decide) (ha _ kf_X8_22) (fun _ h9 => h9) rfl (by decide +kernel) rfl rfl (Nat.le_of_ble_eq_true rfl) dX8_init_27 (fun H locs hP hD hS => ?_)
  have hP : va_P D vwCl [(h0, .inr (8, [.int 0, .int 0, .int 0, .int 0, .int 0, .int 0, .int 2048, .int 2048, .int 1048576, .int 40, .int 0, .int 0, .int 0, .int 0, .int 0, .int 0, .int 0, .null, .null, .null]))] H := hP
  have hD : va_D A [(h0, .inr (8, [.int 0, .int 0, .int 0, .int 0, .int 0, .int 0, .int 2048, .int 2048, .int 1048576, .int 40, .int 0, .int 0, .int 0, .int 0, .int 0, .int 0, .int 0, .null, .null, .null]))] := hD
  refine lv_aload_n hx hb dX8_init_30 rfl (lv_at hl 0 rfl) ?_
  refine va_new (ci := 9) (fs := [.int 0, .int 0, .int 0, .int 0, .int 0, .int 0]) (C := RX9) (T := TX9) (N := 6) hx hb ha inlX9 tyX9 tyX9_ok hown (ha _ kc_X8_25) (ha _ ki_X9) (ha _ kz_X9) hK hP hD hS hA rfl (by decide) (Nat.le_of_ble_eq_true rfl) (Nat.le_of_ble_eq_true rfl) dX8_init_31 (fun q_1 H hP hD hS => ?_)
  have hP : va_P D vwCl [(h0, .inr (8, [.int 0, .int 0, .int 0, .int 0, .int 0, .int 0, .int 2048, .int 2048, .int 1048576, .int 40, .int 0, .int 0, .int 0, .int 0, .int 0, .int 0, .int 0, .null, .null, .null])), (q_1, .inr (9, [.int 0, .int 0, .int 0, .int 0, .int 0, .int 0]))] H := hP
  have hD : va_D A [(h0, .inr (8, [.int 0, .int 0, .int 0, .int 0, .int 0, .int 0, .int 2048, .int 2048, .int 1048576, .int 40, .int 0, .int 0, .int 0, .int 0, .int 0, .int 0, .int 0, .null, .null, .null])), (q_1, .inr (9, [.int 0, .int 0, .int 0, .int 0, .int 0, .int 0]))] := hD
  refine W.widen (k := 1) (n := 6) (Nat.le_of_ble_eq_true rfl) (Nat.le_of_ble_eq_true rfl) ?_
  refine lv_dup hx hb dX8_init_34 rfl ?_
  have hPc := hP.sub (ws' := [(q_1, .inr (9, [.int 0, .int 0, .int 0, .int 0, .int 0, .int 0]))]) [1] rfl
  have hDc := hD.sub (ws' := [(q_1, .inr (9, [.int 0, .int 0, .int 0, .int 0, .int 0, .int 0]))]) [1] (by decide) rfl
  have hFc := va_free (wc := [(q_1, .inr (9, [.int 0, .int 0, .int 0, .int 0, .int 0, .int 0]))]) hD hS hA [1] rfl
  refine va_callv (va_runIN (As := []) (rest := [.ref q_1, .ref h0]) ⟨hx, hb, hml, hown, ha⟩ (c_Timer l D cI cJ cZ cO _ q_1) ⟨va_cnB 0 ha (gaI kd_X9_init) rfl rfl rfl (hN.m RX8 27 yX9_init "CongestionBench" (by decide +kernel)) (ha _ kz_X9) (by decide +kernel) ⟨Nat.le_of_ble_eq_true rfl, Nat.le_of_ble_eq_true rfl⟩, rfl, ha _ km_X9_init⟩ ⟨pw_blind, fun U hU hW => ⟨rfl, pw_start hU hW hPc hK hDc hN⟩⟩ rfl rfl hl.1 rfl (lv_room (Nat.le_of_ble_eq_true rfl)) dX8_init_35 ⟨Nat.le_of_ble_eq_true rfl, Nat.le_of_ble_eq_true rfl⟩) hS (fun q _ h => hFc q h) hFc (fun u t H1 locs ht hvm hw hB hz1 hk1 hS => ?_)
  obtain ⟨hP1, hK1, hD1⟩ := hB
  rw [ht] at hP1
  obtain ⟨hP, hD⟩ := va_join (wr := [(h0, .inr (8, [.int 0, .int 0, .int 0, .int 0, .int 0, .int 0, .int 2048, .int 2048, .int 1048576, .int 40, .int 0, .int 0, .int 0, .int 0, .int 0, .int 0, .int 0, .null, .null, .null]))]) (w1 := [(q_1, .inr (9, [.int 1000, .int 0, .int 0, .int (-1), .int (-1), .int 0]))]) hP hD [1] [0] rfl rfl (by decide) (by decide) hk1 hFc hP1 hD1
  generalize H1 = H at hP hS ⊢
  have hP : va_P D vwCl [(h0, .inr (8, [.int 0, .int 0, .int 0, .int 0, .int 0, .int 0, .int 2048, .int 2048, .int 1048576, .int 40, .int 0, .int 0, .int 0, .int 0, .int 0, .int 0, .int 0, .null, .null, .null])), (q_1, .inr (9, [.int 1000, .int 0, .int 0, .int (-1), .int (-1), .int 0]))] H := hP
  have hD : va_D A [(h0, .inr (8, [.int 0, .int 0, .int 0, .int 0, .int 0, .int 0, .int 2048, .int 2048, .int 1048576, .int 40, .int 0, .int 0, .int 0, .int 0, .int 0, .int 0, .int 0, .null, .null, .null])), (q_1, .inr (9, [.int 1000, .int 0, .int 0, .int (-1), .int (-1), .int 0]))] := hD
  refine W.widen (k := 1) (n := 6) (Nat.le_of_ble_eq_true rfl) (Nat.le_of_ble_eq_true rfl) ?_
  refine va_putF (D := D) (ci := 8) (v := .ref q_1) (ty := .object "CongestionBench$Timer") (C := RX8) (T := TX8) (N := 20) hx hb ha inlX8 tyX8 tyX8_ok nmX8 hown hK hP hD hS 0 rfl rfl 17 (by decide) (ha _ kf_X8_28) (fun _ h9 => h9) rfl hin rfl (by decide +kernel) rfl rfl (Nat.le_of_ble_eq_true rfl) dX8_init_38 (fun H locs hP hD hS => ?_)
  have hP : va_P D vwCl [(h0, .inr (8, [.int 0, .int 0, .int 0, .int 0, .int 0, .int 0, .int 2048, .int 2048, .int 1048576, .int 40, .int 0, .int 0, .int 0, .int 0, .int 0, .int 0, .int 0, .ref q_1, .null, .null])), (q_1, .inr (9, [.int 1000, .int 0, .int 0, .int (-1), .int (-1), .int 0]))] H := hP
  have hD : va_D A [(h0, .inr (8, [.int 0, .int 0, .int 0, .int 0, .int 0, .int 0, .int 2048, .int 2048, .int 1048576, .int 40, .int 0, .int 0, .int 0, .int 0, .int 0, .int 0, .int 0, .ref q_1, .null, .null])), (q_1, .inr (9, [.int 1000, .int 0, .int 0, .int (-1), .int (-1), .int 0]))] := hD
  refine lv_aload_n hx hb dX8_init_41 rfl (lv_at hl 0 rfl) ?_
  refine va_new (ci := 0) (fs := [.null, .null, .int 0, .int 0]) (C := RX0) (T := TX0) (N := 4) hx hb ha inlX0 tyX0 tyX0_ok hown (ha _ kc_X8_32) (ha _ ki_X0) (ha _ kz_X0) hK hP hD hS hA rfl (by decide) (Nat.le_of_ble_eq_true rfl) (Nat.le_of_ble_eq_true rfl) dX8_init_42 (fun q_3 H hP hD hS => ?_)
  have hP : va_P D vwCl [(h0, .inr (8, [.int 0, .int 0, .int 0, .int 0, .int 0, .int 0, .int 2048, .int 2048, .int 1048576, .int 40, .int 0, .int 0, .int 0, .int 0, .int 0, .int 0, .int 0, .ref q_1, .null, .null])), (q_1, .inr (9, [.int 1000, .int 0, .int 0, .int (-1), .int (-1), .int 0])), (q_3, .inr (0, [.null, .null, .int 0, .int 0]))] H := hP
  have hD : va_D A [(h0, .inr (8, [.int 0, .int 0, .int 0, .int 0, .int 0, .int 0, .int 2048, .int 2048, .int 1048576, .int 40, .int 0, .int 0, .int 0, .int 0, .int 0, .int 0, .int 0, .ref q_1, .null, .null])), (q_1, .inr (9, [.int 1000, .int 0, .int 0, .int (-1), .int (-1), .int 0])), (q_3, .inr (0, [.null, .null, .int 0, .int 0]))] := hD
  refine W.widen (k := 2) (n := 10) (Nat.le_of_ble_eq_true rfl) (Nat.le_of_ble_eq_true rfl) ?_
  refine lv_dup hx hb dX8_init_45 rfl ?_
  have hPc := hP.sub (ws' := [(q_3, .inr (0, [.null, .null, .int 0, .int 0]))]) [2] rfl
  have hDc := hD.sub (ws' := [(q_3, .inr (0, [.null, .null, .int 0, .int 0]))]) [2] (by decide) rfl
  have hFc := va_free (wc := [(q_3, .inr (0, [.null, .null, .int 0, .int 0]))]) hD hS hA [2] rfl
  refine va_callv (va_runIN (As := []) (rest := [.ref q_3, .ref h0]) ⟨hx, hb, hml, hown, ha⟩ (c_Board l D cI cJ cZ cO _ q_3) ⟨va_cnB 0 ha (gaI kd_X0_init) rfl rfl rfl (hN.m RX8 34 yX0_init "CongestionBench" (by decide +kernel)) (ha _ kz_X0) (by decide +kernel) ⟨Nat.le_of_ble_eq_true rfl, Nat.le_of_ble_eq_true rfl⟩, rfl, ha _ km_X0_init⟩ ⟨pw_blind, fun U hU hW => ⟨rfl, pw_start hU hW hPc hK hDc hN⟩⟩ rfl rfl hl.1 rfl (lv_room (Nat.le_of_ble_eq_true rfl)) dX8_init_46 ⟨Nat.le_of_ble_eq_true rfl, Nat.le_of_ble_eq_true rfl⟩) hS (fun q _ h => hFc q h) hFc (fun u t H1 locs ht hvm hw hB hz1 hk1 hS => ?_)
  obtain ⟨q_5, q_6, q_7, q_8, hP1, hK1, hD1⟩ := hB
  rw [ht] at hP1
  obtain ⟨hP, hD⟩ := va_join (wr := [(h0, .inr (8, [.int 0, .int 0, .int 0, .int 0, .int 0, .int 0, .int 2048, .int 2048, .int 1048576, .int 40, .int 0, .int 0, .int 0, .int 0, .int 0, .int 0, .int 0, .ref q_1, .null, .null])), (q_1, .inr (9, [.int 1000, .int 0, .int 0, .int (-1), .int (-1), .int 0]))]) (w1 := [(q_3, .inr (0, [.ref q_5, .ref q_7, .int 0, .int (-1)])), (q_5, mkC q_6), (q_6, .inl (cJ, 4, .inr (.inl (fun _ => 0)))), (q_7, mkC q_8), (q_8, .inl (cJ, 4, .inr (.inl (fun _ => 0))))]) hP hD [2] [0, 1] rfl rfl (by decide) (by decide) hk1 hFc hP1 hD1
  generalize H1 = H at hP hS ⊢
  have hP : va_P D vwCl [(h0, .inr (8, [.int 0, .int 0, .int 0, .int 0, .int 0, .int 0, .int 2048, .int 2048, .int 1048576, .int 40, .int 0, .int 0, .int 0, .int 0, .int 0, .int 0, .int 0, .ref q_1, .null, .null])), (q_1, .inr (9, [.int 1000, .int 0, .int 0, .int (-1), .int (-1), .int 0])), (q_3, .inr (0, [.ref q_5, .ref q_7, .int 0, .int (-1)])), (q_5, mkC q_6), (q_6, .inl (cJ, 4, .inr (.inl (fun _ => 0)))), (q_7, mkC q_8), (q_8, .inl (cJ, 4, .inr (.inl (fun _ => 0))))] H := hP
  have hD : va_D A [(h0, .inr (8, [.int 0, .int 0, .int 0, .int 0, .int 0, .int 0, .int 2048, .int 2048, .int 1048576, .int 40, .int 0, .int 0, .int 0, .int 0, .int 0, .int 0, .int 0, .ref q_1, .null, .null])), (q_1, .inr (9, [.int 1000, .int 0, .int 0, .int (-1), .int (-1), .int 0])), (q_3, .inr (0, [.ref q_5, .ref q_7, .int 0, .int (-1)])), (q_5, mkC q_6), (q_6, .inl (cJ, 4, .inr (.inl (fun _ => 0)))), (q_7, mkC q_8), (q_8, .inl (cJ, 4, .inr (.inl (fun _ => 0))))] := hD
  refine W.widen (k := 6) (n := 20) (Nat.le_of_ble_eq_true rfl) (Nat.le_of_ble_eq_true rfl) ?_
  refine va_putF (D := D) (ci := 8) (v := .ref q_3) (ty := .object "CongestionBench$Board") (C := RX8) (T := TX8) (N := 20) hx hb ha inlX8 tyX8 tyX8_ok nmX8 hown hK hP hD hS 0 rfl rfl 18 (by decide) (ha _ kf_X8_35) (fun _ h9 => h9) rfl hin rfl (by decide +kernel) rfl rfl (Nat.le_of_ble_eq_true rfl) dX8_init_49 (fun H locs hP hD hS => ?_)
  have hP : va_P D vwCl [(h0, .inr (8, [.int 0, .int 0, .int 0, .int 0, .int 0, .int 0, .int 2048, .int 2048, .int 1048576, .int 40, .int 0, .int 0, .int 0, .int 0, .int 0, .int 0, .int 0, .ref q_1, .ref q_3, .null])), (q_1, .inr (9, [.int 1000, .int 0, .int 0, .int (-1), .int (-1), .int 0])), (q_3, .inr (0, [.ref q_5, .ref q_7, .int 0, .int (-1)])), (q_5, mkC q_6), (q_6, .inl (cJ, 4, .inr (.inl (fun _ => 0)))), (q_7, mkC q_8), (q_8, .inl (cJ, 4, .inr (.inl (fun _ => 0))))] H := hP
  have hD : va_D A [(h0, .inr (8, [.int 0, .int 0, .int 0, .int 0, .int 0, .int 0, .int 2048, .int 2048, .int 1048576, .int 40, .int 0, .int 0, .int 0, .int 0, .int 0, .int 0, .int 0, .ref q_1, .ref q_3, .null])), (q_1, .inr (9, [.int 1000, .int 0, .int 0, .int (-1), .int (-1), .int 0])), (q_3, .inr (0, [.ref q_5, .ref q_7, .int 0, .int (-1)])), (q_5, mkC q_6), (q_6, .inl (cJ, 4, .inr (.inl (fun _ => 0)))), (q_7, mkC q_8), (q_8, .inl (cJ, 4, .inr (.inl (fun _ => 0))))] := hD
  refine lv_aload_n hx hb dX8_init_52 rfl (lv_at hl 0 rfl) ?_
  refine va_new (ci := 2) (fs := [.int 0, .int 0, .int 0, .int 0, .int 0]) (C := RX2) (T := TX2) (N := 5) hx hb ha inlX2 tyX2 tyX2_ok hown (ha _ kc_X8_39) (ha _ ki_X2) (ha _ kz_X2) hK hP hD hS hA rfl (by decide) (Nat.le_of_ble_eq_true rfl) (Nat.le_of_ble_eq_true rfl) dX8_init_53 (fun q_9 H hP hD hS => ?_)
  have hP : va_P D vwCl [(h0, .inr (8, [.int 0, .int 0, .int 0, .int 0, .int 0, .int 0, .int 2048, .int 2048, .int 1048576, .int 40, .int 0, .int 0, .int 0, .int 0, .int 0, .int 0, .int 0, .ref q_1, .ref q_3, .null])), (q_1, .inr (9, [.int 1000, .int 0, .int 0, .int (-1), .int (-1), .int 0])), (q_3, .inr (0, [.ref q_5, .ref q_7, .int 0, .int (-1)])), (q_5, mkC q_6), (q_6, .inl (cJ, 4, .inr (.inl (fun _ => 0)))), (q_7, mkC q_8), (q_8, .inl (cJ, 4, .inr (.inl (fun _ => 0)))), (q_9, .inr (2, [.int 0, .int 0, .int 0, .int 0, .int 0]))] H := hP
  have hD : va_D A [(h0, .inr (8, [.int 0, .int 0, .int 0, .int 0, .int 0, .int 0, .int 2048, .int 2048, .int 1048576, .int 40, .int 0, .int 0, .int 0, .int 0, .int 0, .int 0, .int 0, .ref q_1, .ref q_3, .null])), (q_1, .inr (9, [.int 1000, .int 0, .int 0, .int (-1), .int (-1), .int 0])), (q_3, .inr (0, [.ref q_5, .ref q_7, .int 0, .int (-1)])), (q_5, mkC q_6), (q_6, .inl (cJ, 4, .inr (.inl (fun _ => 0)))), (q_7, mkC q_8), (q_8, .inl (cJ, 4, .inr (.inl (fun _ => 0)))), (q_9, .inr (2, [.int 0, .int 0, .int 0, .int 0, .int 0]))] := hD
  refine W.widen (k := 7) (n := 25) (Nat.le_of_ble_eq_true rfl) (Nat.le_of_ble_eq_true rfl) ?_
  refine lv_dup hx hb dX8_init_56 rfl ?_
  have hPc := hP.sub (ws' := [(q_9, .inr (2, [.int 0, .int 0, .int 0, .int 0, .int 0]))]) [7] rfl
  have hDc := hD.sub (ws' := [(q_9, .inr (2, [.int 0, .int 0, .int 0, .int 0, .int 0]))]) [7] (by decide) rfl
  have hFc := va_free (wc := [(q_9, .inr (2, [.int 0, .int 0, .int 0, .int 0, .int 0]))]) hD hS hA [7] rfl
  refine va_callv (va_runIN (As := []) (rest := [.ref q_9, .ref h0]) ⟨hx, hb, hml, hown, ha⟩ (c_Cubic l D cI cJ cZ cO _ q_9) ⟨va_cnB 0 ha (gaI kd_X2_init) rfl rfl rfl (hN.m RX8 41 yX2_init "CongestionBench" (by decide +kernel)) (ha _ kz_X2) (by decide +kernel) ⟨Nat.le_of_ble_eq_true rfl, Nat.le_of_ble_eq_true rfl⟩, rfl, ha _ km_X2_init⟩ ⟨pw_blind, fun U hU hW => ⟨rfl, pw_start hU hW hPc hK hDc hN⟩⟩ rfl rfl hl.1 rfl (lv_room (Nat.le_of_ble_eq_true rfl)) dX8_init_57 ⟨Nat.le_of_ble_eq_true rfl, Nat.le_of_ble_eq_true rfl⟩) hS (fun q _ h => hFc q h) hFc (fun u t H1 locs ht hvm hw hB hz1 hk1 hS => ?_)
  obtain ⟨hP1, hK1, hD1⟩ := hB
  rw [ht] at hP1
  obtain ⟨hP, hD⟩ := va_join (wr := [(h0, .inr (8, [.int 0, .int 0, .int 0, .int 0, .int 0, .int 0, .int 2048, .int 2048, .int 1048576, .int 40, .int 0, .int 0, .int 0, .int 0, .int 0, .int 0, .int 0, .ref q_1, .ref q_3, .null])), (q_1, .inr (9, [.int 1000, .int 0, .int 0, .int (-1), .int (-1), .int 0])), (q_3, .inr (0, [.ref q_5, .ref q_7, .int 0, .int (-1)])), (q_5, mkC q_6), (q_6, .inl (cJ, 4, .inr (.inl (fun _ => 0)))), (q_7, mkC q_8), (q_8, .inl (cJ, 4, .inr (.inl (fun _ => 0))))]) (w1 := [(q_9, .inr (2, [.int 0, .int 0, .int (-1), .int 0, .int 0]))]) hP hD [7] [0, 1, 2, 3, 4, 5, 6] rfl rfl (by decide) (by decide) hk1 hFc hP1 hD1
  generalize H1 = H at hP hS ⊢
  have hP : va_P D vwCl [(h0, .inr (8, [.int 0, .int 0, .int 0, .int 0, .int 0, .int 0, .int 2048, .int 2048, .int 1048576, .int 40, .int 0, .int 0, .int 0, .int 0, .int 0, .int 0, .int 0, .ref q_1, .ref q_3, .null])), (q_1, .inr (9, [.int 1000, .int 0, .int 0, .int (-1), .int (-1), .int 0])), (q_3, .inr (0, [.ref q_5, .ref q_7, .int 0, .int (-1)])), (q_5, mkC q_6), (q_6, .inl (cJ, 4, .inr (.inl (fun _ => 0)))), (q_7, mkC q_8), (q_8, .inl (cJ, 4, .inr (.inl (fun _ => 0)))), (q_9, .inr (2, [.int 0, .int 0, .int (-1), .int 0, .int 0]))] H := hP
  have hD : va_D A [(h0, .inr (8, [.int 0, .int 0, .int 0, .int 0, .int 0, .int 0, .int 2048, .int 2048, .int 1048576, .int 40, .int 0, .int 0, .int 0, .int 0, .int 0, .int 0, .int 0, .ref q_1, .ref q_3, .null])), (q_1, .inr (9, [.int 1000, .int 0, .int 0, .int (-1), .int (-1), .int 0])), (q_3, .inr (0, [.ref q_5, .ref q_7, .int 0, .int (-1)])), (q_5, mkC q_6), (q_6, .inl (cJ, 4, .inr (.inl (fun _ => 0)))), (q_7, mkC q_8), (q_8, .inl (cJ, 4, .inr (.inl (fun _ => 0)))), (q_9, .inr (2, [.int 0, .int 0, .int (-1), .int 0, .int 0]))] := hD
  refine W.widen (k := 7) (n := 25) (Nat.le_of_ble_eq_true rfl) (Nat.le_of_ble_eq_true rfl) ?_
  refine va_putF (D := D) (ci := 8) (v := .ref q_9) (ty := .object "CongestionBench$Cubic") (C := RX8) (T := TX8) (N := 20) hx hb ha inlX8 tyX8 tyX8_ok nmX8 hown hK hP hD hS 0 rfl rfl 19 (by decide) (ha _ kf_X8_42) (fun _ h9 => h9) rfl hin rfl (by decide +kernel) rfl rfl (Nat.le_of_ble_eq_true rfl) dX8_init_60 (fun H locs hP hD hS => ?_)
  have hP : va_P D vwCl [(h0, .inr (8, [.int 0, .int 0, .int 0, .int 0, .int 0, .int 0, .int 2048, .int 2048, .int 1048576, .int 40, .int 0, .int 0, .int 0, .int 0, .int 0, .int 0, .int 0, .ref q_1, .ref q_3, .ref q_9])), (q_1, .inr (9, [.int 1000, .int 0, .int 0, .int (-1), .int (-1), .int 0])), (q_3, .inr (0, [.ref q_5, .ref q_7, .int 0, .int (-1)])), (q_5, mkC q_6), (q_6, .inl (cJ, 4, .inr (.inl (fun _ => 0)))), (q_7, mkC q_8), (q_8, .inl (cJ, 4, .inr (.inl (fun _ => 0)))), (q_9, .inr (2, [.int 0, .int 0, .int (-1), .int 0, .int 0]))] H := hP
  have hD : va_D A [(h0, .inr (8, [.int 0, .int 0, .int 0, .int 0, .int 0, .int 0, .int 2048, .int 2048, .int 1048576, .int 40, .int 0, .int 0, .int 0, .int 0, .int 0, .int 0, .int 0, .ref q_1, .ref q_3, .ref q_9])), (q_1, .inr (9, [.int 1000, .int 0, .int 0, .int (-1), .int (-1), .int 0])), (q_3, .inr (0, [.ref q_5, .ref q_7, .int 0, .int (-1)])), (q_5, mkC q_6), (q_6, .inl (cJ, 4, .inr (.inl (fun _ => 0)))), (q_7, mkC q_8), (q_8, .inl (cJ, 4, .inr (.inl (fun _ => 0)))), (q_9, .inr (2, [.int 0, .int 0, .int (-1), .int 0, .int 0]))] := hD
  refine lv_aload_n hx hb dX8_init_63 rfl (lv_at hl 0 rfl) ?_
  refine lv_iload_n hx hb dX8_init_64 rfl (lv_at hl 1 rfl) ?_
  refine va_putF (D := D) (ci := 8) (v := .int n0) (ty := .int) (C := RX8) (T := TX8) (N := 20) hx hb ha inlX8 tyX8 tyX8_ok nmX8 hown hK hP hD hS 0 rfl rfl 0 (by decide) (ha _ kf_X8_46) (fun _ h9 => h9) rfl hin rfl (by decide +kernel) rfl rfl (Nat.le_of_ble_eq_true rfl) dX8_init_65 (fun H locs hP hD hS => ?_)
  have hP : va_P D vwCl [(h0, .inr (8, [.int n0, .int 0, .int 0, .int 0, .int 0, .int 0, .int 2048, .int 2048, .int 1048576, .int 40, .int 0, .int 0, .int 0, .int 0, .int 0, .int 0, .int 0, .ref q_1, .ref q_3, .ref q_9])), (q_1, .inr (9, [.int 1000, .int 0, .int 0, .int (-1), .int (-1), .int 0])), (q_3, .inr (0, [.ref q_5, .ref q_7, .int 0, .int (-1)])), (q_5, mkC q_6), (q_6, .inl (cJ, 4, .inr (.inl (fun _ => 0)))), (q_7, mkC q_8), (q_8, .inl (cJ, 4, .inr (.inl (fun _ => 0)))), (q_9, .inr (2, [.int 0, .int 0, .int (-1), .int 0, .int 0]))] H := hP
  have hD : va_D A [(h0, .inr (8, [.int n0, .int 0, .int 0, .int 0, .int 0, .int 0, .int 2048, .int 2048, .int 1048576, .int 40, .int 0, .int 0, .int 0, .int 0, .int 0, .int 0, .int 0, .ref q_1, .ref q_3, .ref q_9])), (q_1, .inr (9, [.int 1000, .int 0, .int 0, .int (-1), .int (-1), .int 0])), (q_3, .inr (0, [.ref q_5, .ref q_7, .int 0, .int (-1)])), (q_5, mkC q_6), (q_6, .inl (cJ, 4, .inr (.inl (fun _ => 0)))), (q_7, mkC q_8), (q_8, .inl (cJ, 4, .inr (.inl (fun _ => 0)))), (q_9, .inr (2, [.int 0, .int 0, .int (-1), .int 0, .int 0]))] := hD
  refine lv_aload_n hx hb dX8_init_68 rfl (lv_at hl 0 rfl) ?_
  refine lv_iload_n hx hb dX8_init_69 rfl (lv_at hl 2 rfl) ?_
  refine va_putF (D := D) (ci := 8) (v := .int k0) (ty := .int) (C := RX8) (T := TX8) (N := 20) hx hb ha inlX8 tyX8 tyX8_ok nmX8 hown hK hP hD hS 0 rfl rfl 1 (by decide) (ha _ kf_X8_49) (fun _ h9 => h9) rfl hin rfl (by decide +kernel) rfl rfl (Nat.le_of_ble_eq_true rfl) dX8_init_70 (fun H locs hP hD hS => ?_)
  have hP : va_P D vwCl [(h0, .inr (8, [.int n0, .int k0, .int 0, .int 0, .int 0, .int 0, .int 2048, .int 2048, .int 1048576, .int 40, .int 0, .int 0, .int 0, .int 0, .int 0, .int 0, .int 0, .ref q_1, .ref q_3, .ref q_9])), (q_1, .inr (9, [.int 1000, .int 0, .int 0, .int (-1), .int (-1), .int 0])), (q_3, .inr (0, [.ref q_5, .ref q_7, .int 0, .int (-1)])), (q_5, mkC q_6), (q_6, .inl (cJ, 4, .inr (.inl (fun _ => 0)))), (q_7, mkC q_8), (q_8, .inl (cJ, 4, .inr (.inl (fun _ => 0)))), (q_9, .inr (2, [.int 0, .int 0, .int (-1), .int 0, .int 0]))] H := hP
  have hD : va_D A [(h0, .inr (8, [.int n0, .int k0, .int 0, .int 0, .int 0, .int 0, .int 2048, .int 2048, .int 1048576, .int 40, .int 0, .int 0, .int 0, .int 0, .int 0, .int 0, .int 0, .ref q_1, .ref q_3, .ref q_9])), (q_1, .inr (9, [.int 1000, .int 0, .int 0, .int (-1), .int (-1), .int 0])), (q_3, .inr (0, [.ref q_5, .ref q_7, .int 0, .int (-1)])), (q_5, mkC q_6), (q_6, .inl (cJ, 4, .inr (.inl (fun _ => 0)))), (q_7, mkC q_8), (q_8, .inl (cJ, 4, .inr (.inl (fun _ => 0)))), (q_9, .inr (2, [.int 0, .int 0, .int (-1), .int 0, .int 0]))] := hD
  have hP9 := hP.sub (ws' := [(h0, .inr (8, [.int n0, .int k0, .int 0, .int 0, .int 0, .int 0, .int 2048, .int 2048, .int 1048576, .int 40, .int 0, .int 0, .int 0, .int 0, .int 0, .int 0, .int 0, .ref q_1, .ref q_3, .ref q_9])), (q_1, .inr (9, [.int 1000, .int 0, .int 0, .int (-1), .int (-1), .int 0])), (q_3, .inr (0, [.ref q_5, .ref q_7, .int 0, .int (-1)])), (q_5, mkC q_6), (q_6, .inl (cJ, 4, .inr (.inl (fun _ => 0)))), (q_7, mkC q_8), (q_8, .inl (cJ, 4, .inr (.inl (fun _ => 0)))), (q_9, .inr (2, [.int 0, .int 0, .int (-1), .int 0, .int 0]))]) [0, 1, 2, 3, 4, 5, 6, 7] rfl
  have hD9 := hD.sub (ws' := [(h0, .inr (8, [.int n0, .int k0, .int 0, .int 0, .int 0, .int 0, .int 2048, .int 2048, .int 1048576, .int 40, .int 0, .int 0, .int 0, .int 0, .int 0, .int 0, .int 0, .ref q_1, .ref q_3, .ref q_9])), (q_1, .inr (9, [.int 1000, .int 0, .int 0, .int (-1), .int (-1), .int 0])), (q_3, .inr (0, [.ref q_5, .ref q_7, .int 0, .int (-1)])), (q_5, mkC q_6), (q_6, .inl (cJ, 4, .inr (.inl (fun _ => 0)))), (q_7, mkC q_8), (q_8, .inl (cJ, 4, .inr (.inl (fun _ => 0)))), (q_9, .inr (2, [.int 0, .int 0, .int (-1), .int 0, .int 0]))]) [0, 1, 2, 3, 4, 5, 6, 7] (by decide) rfl
  exact W.vret hx hb hr (fun t ht hW => ⟨⟨(), rfl, trivial, ⟨q_1, q_3, q_5, q_6, q_7, q_8, q_9, by rw [ht]; exact hP9, va_K.moved hW.alike hK, hD9⟩⟩, hS.F ht⟩) hS.2.2 dX8_init_73

set_option maxHeartbeats 4000000 in
set_option maxRecDepth 100000 in
theorem c_Receiver (l : Launch) (D : va_G) (cI cJ cZ cO : ClassId) (sz : Nat) (h0 : Nat) (n0 b0 : Int32) (hz : b0 = 0 ∨ b0 = 1) : Met l yX6_init (wa yX6_init cX6_init 3 none) ({ frames := 2, cells := 2, slots := 5, locals := 40 }) (va_Pc [.ref h0, .int n0, .int b0] (pw_s D cI cJ cZ cO sz [(h0, .inr (6, [.int 0, .int 0, .int 0, .int 0, .null, .int 0, .int 0, .int 0, .int 0, .int 0, .int 0]))])) (va_Qv (fun (_ : Unit) => True) (fun (_ : Unit) (t : State) => ∃ (q1 q2 : Nat), pw_t D cI cJ cZ cO (va_A [(h0, .inr (6, [.int 0, .int 0, .int 0, .int 0, .null, .int 0, .int 0, .int 0, .int 0, .int 0, .int 0]))] sz) [(h0, .inr (6, [.int n0, .int b0, .int 0, .int 40, .ref q1, .int 0, .int 0, .int 0, .int 0, .int (-1), .int 0])), (q1, mkC q2), (q2, .inl (cJ, 4, .inr (.inl (fun _ => 0))))] t) (va_A [(h0, .inr (6, [.int 0, .int 0, .int 0, .int 0, .null, .int 0, .int 0, .int 0, .int 0, .int 0, .int 0]))] sz)) 2 5 (va_A [(h0, .inr (6, [.int 0, .int 0, .int 0, .int 0, .null, .int 0, .int 0, .int 0, .int 0, .int 0, .int 0]))] sz) := by
  refine Met.ofW (cc := cX6_init) (maxL := 3) (ret := none) (by decide) rfl ?_
  intro p e s m args below meth c s₁ B hml hv
  obtain ⟨rfl, hsz, hP, hK, hD0, hN⟩ := hv
  have hx := B.exec
  have hb := B.bytes
  have hr := B.returns
  have hts := atoms_spec (ws := (wa yX6_init cX6_init 3 none)) B.pre
  have ha : ∀ w ∈ wsL_law, w.before _ s = true := fun w h => hts w (List.mem_cons_of_mem _ h)
  have hown : s.vm.findClass RX6 = some m.cls := findClass_of_methodNamed B.named
  have hlocks := B.notSynchronized
  have hin : meth.name = "<init>" := (name_of_methodNamed B.named B.method).1
  subst hsz
  have hD := hD0.self (sz := s.heap.size)
  generalize hAe : va_A [(h0, .inr (6, [.int 0, .int 0, .int 0, .int 0, .null, .int 0, .int 0, .int 0, .int 0, .int 0, .int 0]))] s.heap.size = A at hD ⊢
  have hA : ∀ q : Nat, s.heap.size ≤ q → A q := fun q h => by rw [← hAe]; exact Or.inr h
  have hS : va_S A s.heap s.heap [] := va_S.rf
  have hP : va_P D vwCl [(h0, .inr (6, [.int 0, .int 0, .int 0, .int 0, .null, .int 0, .int 0, .int 0, .int 0, .int 0, .int 0]))] s.heap := hP
  have hl := lv_entry ([.ref h0, .int n0, .int b0]) (n := 3) (Nat.le_of_ble_eq_true rfl)
  rw [lg_entry_eq]
  generalize (lg_sl ([.ref h0, .int n0, .int b0]) ++ List.replicate (3 - (lg_sl ([.ref h0, .int n0, .int b0])).length) Slot.unset).toArray = ls at hl ⊢
  have hl : lv_has ls 3 [(0, .ref h0), (1, .int n0), (2, .int b0)] := hl
  refine lv_aload_n hx hb dX6_init_0 rfl (lv_at hl 0 rfl) ?_
  refine W.objInit hx hb hown (ha _ kl_X6_3) (ha _ km_obj) (ha _ kd_obj) rfl (by rw [hml]; exact hl.1) rfl dX6_init_1 (Nat.le_of_ble_eq_true rfl) (Nat.le_of_ble_eq_true rfl) ?_
  refine W.eq (g2 := F0 m 4 ls []) rfl ?_
  refine lv_aload_n hx hb dX6_init_4 rfl (lv_at hl 0 rfl) ?_
  refine lv_bipush (v := 40) hx hb dX6_init_5 (by decide) ?_
  refine va_put (D := D) (ci := 6) (v := .int 40) (ty := .int) (C := RX6) (T := TX6) (N := 11) hx hb ha inlX6 tyX6 tyX6_ok nmX6 hown hK hP hD hS 0 rfl rfl 3 (by decide) (ha _ kf_X6_9) (fun _ h9 => h9) rfl (by decide +kernel) rfl rfl (Nat.le_of_ble_eq_true rfl) dX6_init_7 (fun H locs hP hD hS => ?_)
  have hP : va_P D vwCl [(h0, .inr (6, [.int 0, .int 0, .int 0, .int 40, .null, .int 0, .int 0, .int 0, .int 0, .int 0, .int 0]))] H := hP
  have hD : va_D A [(h0, .inr (6, [.int 0, .int 0, .int 0, .int 40, .null, .int 0, .int 0, .int 0, .int 0, .int 0, .int 0]))] := hD
  refine lv_aload_n hx hb dX6_init_10 rfl (lv_at hl 0 rfl) ?_
  refine va_new (ci := 4) (fs := [.null]) (C := RX4) (T := TX4) (N := 1) hx hb ha inlX4 tyX4 tyX4_ok hown (ha _ kc_X6_15) (ha _ ki_X4) (ha _ kz_X4) hK hP hD hS hA rfl (by decide) (Nat.le_of_ble_eq_true rfl) (Nat.le_of_ble_eq_true rfl) dX6_init_11 (fun q_1 H hP hD hS => ?_)
  have hP : va_P D vwCl [(h0, .inr (6, [.int 0, .int 0, .int 0, .int 40, .null, .int 0, .int 0, .int 0, .int 0, .int 0, .int 0])), (q_1, .inr (4, [.null]))] H := hP
  have hD : va_D A [(h0, .inr (6, [.int 0, .int 0, .int 0, .int 40, .null, .int 0, .int 0, .int 0, .int 0, .int 0, .int 0])), (q_1, .inr (4, [.null]))] := hD
  refine W.widen (k := 1) (n := 1) (Nat.le_of_ble_eq_true rfl) (Nat.le_of_ble_eq_true rfl) ?_
  refine lv_dup hx hb dX6_init_14 rfl ?_
  have hPc := hP.sub (ws' := [(q_1, .inr (4, [.null]))]) [1] rfl
  have hDc := hD.sub (ws' := [(q_1, .inr (4, [.null]))]) [1] (by decide) rfl
  have hFc := va_free (wc := [(q_1, .inr (4, [.null]))]) hD hS hA [1] rfl
  refine va_callv (va_runIN (As := []) (rest := [.ref q_1, .ref h0]) ⟨hx, hb, hml, hown, ha⟩ (c_Marks l D cI cJ cZ cO _ q_1) ⟨va_cnB 0 ha (gaI kd_X4_init) rfl rfl rfl (hN.m RX6 17 yX4_init "CongestionBench" (by decide +kernel)) (ha _ kz_X4) (by decide +kernel) ⟨Nat.le_of_ble_eq_true rfl, Nat.le_of_ble_eq_true rfl⟩, rfl, ha _ km_X4_init⟩ ⟨pw_blind, fun U hU hW => ⟨rfl, pw_start hU hW hPc hK hDc hN⟩⟩ rfl rfl hl.1 rfl (lv_room (Nat.le_of_ble_eq_true rfl)) dX6_init_15 ⟨Nat.le_of_ble_eq_true rfl, Nat.le_of_ble_eq_true rfl⟩) hS (fun q _ h => hFc q h) hFc (fun u t H1 locs ht hvm hw hB hz1 hk1 hS => ?_)
  obtain ⟨q_3, hP1, hK1, hD1⟩ := hB
  rw [ht] at hP1
  obtain ⟨hP, hD⟩ := va_join (wr := [(h0, .inr (6, [.int 0, .int 0, .int 0, .int 40, .null, .int 0, .int 0, .int 0, .int 0, .int 0, .int 0]))]) (w1 := [(q_1, mkC q_3), (q_3, .inl (cJ, 4, .inr (.inl (fun _ => 0))))]) hP hD [1] [0] rfl rfl (by decide) (by decide) hk1 hFc hP1 hD1
  generalize H1 = H at hP hS ⊢
  have hP : va_P D vwCl [(h0, .inr (6, [.int 0, .int 0, .int 0, .int 40, .null, .int 0, .int 0, .int 0, .int 0, .int 0, .int 0])), (q_1, mkC q_3), (q_3, .inl (cJ, 4, .inr (.inl (fun _ => 0))))] H := hP
  have hD : va_D A [(h0, .inr (6, [.int 0, .int 0, .int 0, .int 40, .null, .int 0, .int 0, .int 0, .int 0, .int 0, .int 0])), (q_1, mkC q_3), (q_3, .inl (cJ, 4, .inr (.inl (fun _ => 0))))] := hD
  refine W.widen (k := 2) (n := 5) (Nat.le_of_ble_eq_true rfl) (Nat.le_of_ble_eq_true rfl) ?_
  refine va_putF (D := D) (ci := 6) (v := .ref q_1) (ty := .object "CongestionBench$Marks") (C := RX6) (T := TX6) (N := 11) hx hb ha inlX6 tyX6 tyX6_ok nmX6 hown hK hP hD hS 0 rfl rfl 4 (by decide) (ha _ kf_X6_18) (fun _ h9 => h9) rfl hin rfl (by decide +kernel) rfl rfl (Nat.le_of_ble_eq_true rfl) dX6_init_18 (fun H locs hP hD hS => ?_)
  have hP : va_P D vwCl [(h0, .inr (6, [.int 0, .int 0, .int 0, .int 40, .ref q_1, .int 0, .int 0, .int 0, .int 0, .int 0, .int 0])), (q_1, mkC q_3), (q_3, .inl (cJ, 4, .inr (.inl (fun _ => 0))))] H := hP
  have hD : va_D A [(h0, .inr (6, [.int 0, .int 0, .int 0, .int 40, .ref q_1, .int 0, .int 0, .int 0, .int 0, .int 0, .int 0])), (q_1, mkC q_3), (q_3, .inl (cJ, 4, .inr (.inl (fun _ => 0))))] := hD
  refine lv_aload_n hx hb dX6_init_21 rfl (lv_at hl 0 rfl) ?_
  refine lv_iconst (v := (-1)) hx hb dX6_init_22 (by decide) ?_
  refine va_put (D := D) (ci := 6) (v := .int (-1)) (ty := .int) (C := RX6) (T := TX6) (N := 11) hx hb ha inlX6 tyX6 tyX6_ok nmX6 hown hK hP hD hS 0 rfl rfl 9 (by decide) (ha _ kf_X6_22) (fun _ h9 => h9) rfl (by decide +kernel) rfl rfl (Nat.le_of_ble_eq_true rfl) dX6_init_23 (fun H locs hP hD hS => ?_)
  have hP : va_P D vwCl [(h0, .inr (6, [.int 0, .int 0, .int 0, .int 40, .ref q_1, .int 0, .int 0, .int 0, .int 0, .int (-1), .int 0])), (q_1, mkC q_3), (q_3, .inl (cJ, 4, .inr (.inl (fun _ => 0))))] H := hP
  have hD : va_D A [(h0, .inr (6, [.int 0, .int 0, .int 0, .int 40, .ref q_1, .int 0, .int 0, .int 0, .int 0, .int (-1), .int 0])), (q_1, mkC q_3), (q_3, .inl (cJ, 4, .inr (.inl (fun _ => 0))))] := hD
  refine lv_aload_n hx hb dX6_init_26 rfl (lv_at hl 0 rfl) ?_
  refine lv_iload_n hx hb dX6_init_27 rfl (lv_at hl 1 rfl) ?_
  refine va_putF (D := D) (ci := 6) (v := .int n0) (ty := .int) (C := RX6) (T := TX6) (N := 11) hx hb ha inlX6 tyX6 tyX6_ok nmX6 hown hK hP hD hS 0 rfl rfl 0 (by decide) (ha _ kf_X6_25) (fun _ h9 => h9) rfl hin rfl (by decide +kernel) rfl rfl (Nat.le_of_ble_eq_true rfl) dX6_init_28 (fun H locs hP hD hS => ?_)
  have hP : va_P D vwCl [(h0, .inr (6, [.int n0, .int 0, .int 0, .int 40, .ref q_1, .int 0, .int 0, .int 0, .int 0, .int (-1), .int 0])), (q_1, mkC q_3), (q_3, .inl (cJ, 4, .inr (.inl (fun _ => 0))))] H := hP
  have hD : va_D A [(h0, .inr (6, [.int n0, .int 0, .int 0, .int 40, .ref q_1, .int 0, .int 0, .int 0, .int 0, .int (-1), .int 0])), (q_1, mkC q_3), (q_3, .inl (cJ, 4, .inr (.inl (fun _ => 0))))] := hD
  refine lv_aload_n hx hb dX6_init_31 rfl (lv_at hl 0 rfl) ?_
  refine lv_iload_n hx hb dX6_init_32 rfl (lv_at hl 2 rfl) ?_
  refine va_putF (D := D) (ci := 6) (v := .int b0) (ty := .boolean) (C := RX6) (T := TX6) (N := 11) hx hb ha inlX6 tyX6 tyX6_ok nmX6 hown hK hP hD hS 0 rfl rfl 1 (by decide) (ha _ kf_X6_28) (fun _ h9 => h9) rfl hin rfl (by decide +kernel) (by rcases hz with h | h <;> rw [h] <;> rfl) (by rcases hz with h | h <;> rw [h] <;> rfl) (Nat.le_of_ble_eq_true rfl) dX6_init_33 (fun H locs hP hD hS => ?_)
  have hP : va_P D vwCl [(h0, .inr (6, [.int n0, .int b0, .int 0, .int 40, .ref q_1, .int 0, .int 0, .int 0, .int 0, .int (-1), .int 0])), (q_1, mkC q_3), (q_3, .inl (cJ, 4, .inr (.inl (fun _ => 0))))] H := hP
  have hD : va_D A [(h0, .inr (6, [.int n0, .int b0, .int 0, .int 40, .ref q_1, .int 0, .int 0, .int 0, .int 0, .int (-1), .int 0])), (q_1, mkC q_3), (q_3, .inl (cJ, 4, .inr (.inl (fun _ => 0))))] := hD
  have hP9 := hP.sub (ws' := [(h0, .inr (6, [.int n0, .int b0, .int 0, .int 40, .ref q_1, .int 0, .int 0, .int 0, .int 0, .int (-1), .int 0])), (q_1, mkC q_3), (q_3, .inl (cJ, 4, .inr (.inl (fun _ => 0))))]) [0, 1, 2] rfl
  have hD9 := hD.sub (ws' := [(h0, .inr (6, [.int n0, .int b0, .int 0, .int 40, .ref q_1, .int 0, .int 0, .int 0, .int 0, .int (-1), .int 0])), (q_1, mkC q_3), (q_3, .inl (cJ, 4, .inr (.inl (fun _ => 0))))]) [0, 1, 2] (by decide) rfl
  exact W.vret hx hb hr (fun t ht hW => ⟨⟨(), rfl, trivial, ⟨q_1, q_3, by rw [ht]; exact hP9, va_K.moved hW.alike hK, hD9⟩⟩, hS.F ht⟩) hS.2.2 dX6_init_36

set_option maxHeartbeats 4000000 in
set_option maxRecDepth 100000 in
theorem c_Flow (l : Launch) (D : va_G) (cI cJ cZ cO : ClassId) (sz : Nat) (h0 : Nat) (n0 k0 b0 : Int32) (hz : b0 = 0 ∨ b0 = 1) : Met l yX3_init (wa yX3_init cX3_init 4 none) ({ frames := 4, cells := 11, slots := 61, locals := 82 }) (va_Pc [.ref h0, .int n0, .int k0, .int b0] (pw_s D cI cJ cZ cO sz [(h0, .inr (3, [.null, .null]))])) (va_Qv (fun (_ : Unit) => True) (fun (_ : Unit) (t : State) => ∃ (q8 q9 : Nat), pw_t D cI cJ cZ cO (va_A [(h0, .inr (3, [.null, .null]))] sz) [(h0, fwC q8 q9)] t) (va_A [(h0, .inr (3, [.null, .null]))] sz)) 11 61 (va_A [(h0, .inr (3, [.null, .null]))] sz) := by
  refine Met.ofW (cc := cX3_init) (maxL := 4) (ret := none) (by decide) rfl ?_
  intro p e s m args below meth c s₁ B hml hv
  obtain ⟨rfl, hsz, hP, hK, hD0, hN⟩ := hv
  have hx := B.exec
  have hb := B.bytes
  have hr := B.returns
  have hts := atoms_spec (ws := (wa yX3_init cX3_init 4 none)) B.pre
  have ha : ∀ w ∈ wsL_law, w.before _ s = true := fun w h => hts w (List.mem_cons_of_mem _ h)
  have hown : s.vm.findClass RX3 = some m.cls := findClass_of_methodNamed B.named
  have hlocks := B.notSynchronized
  have hin : meth.name = "<init>" := (name_of_methodNamed B.named B.method).1
  subst hsz
  have hD := hD0.self (sz := s.heap.size)
  generalize hAe : va_A [(h0, .inr (3, [.null, .null]))] s.heap.size = A at hD ⊢
  have hA : ∀ q : Nat, s.heap.size ≤ q → A q := fun q h => by rw [← hAe]; exact Or.inr h
  have hS : va_S A s.heap s.heap [] := va_S.rf
  have hP : va_P D vwCl [(h0, .inr (3, [.null, .null]))] s.heap := hP
  have hl := lv_entry ([.ref h0, .int n0, .int k0, .int b0]) (n := 4) (Nat.le_of_ble_eq_true rfl)
  rw [lg_entry_eq]
  generalize (lg_sl ([.ref h0, .int n0, .int k0, .int b0]) ++ List.replicate (4 - (lg_sl ([.ref h0, .int n0, .int k0, .int b0])).length) Slot.unset).toArray = ls at hl ⊢
  have hl : lv_has ls 4 [(0, .ref h0), (1, .int n0), (2, .int k0), (3, .int b0)] := hl
  refine lv_aload_n hx hb dX3_init_0 rfl (lv_at hl 0 rfl) ?_
  refine W.objInit hx hb hown (ha _ kl_X3_1) (ha _ km_obj) (ha _ kd_obj) rfl (by rw [hml]; exact hl.1) rfl dX3_init_1 (Nat.le_of_ble_eq_true rfl) (Nat.le_of_ble_eq_true rfl) ?_
  refine W.eq (g2 := F0 m 4 ls []) rfl ?_
  refine lv_aload_n hx hb dX3_init_4 rfl (lv_at hl 0 rfl) ?_
  refine va_new (ci := 8) (fs := [.int 0, .int 0, .int 0, .int 0, .int 0, .int 0, .int 0, .int 0, .int 0, .int 0, .int 0, .int 0, .int 0, .int 0, .int 0, .int 0, .int 0, .null, .null, .null]) (C := RX8) (T := TX8) (N := 20) hx hb ha inlX8 tyX8 tyX8_ok hown (ha _ kc_X3_7) (ha _ ki_X8) (ha _ kz_X8) hK hP hD hS hA rfl (by decide) (Nat.le_of_ble_eq_true rfl) (Nat.le_of_ble_eq_true rfl) dX3_init_5 (fun q_1 H hP hD hS => ?_)
  have hP : va_P D vwCl [(h0, .inr (3, [.null, .null])), (q_1, .inr (8, [.int 0, .int 0, .int 0, .int 0, .int 0, .int 0, .int 0, .int 0, .int 0, .int 0, .int 0, .int 0, .int 0, .int 0, .int 0, .int 0, .int 0, .null, .null, .null]))] H := hP
  have hD : va_D A [(h0, .inr (3, [.null, .null])), (q_1, .inr (8, [.int 0, .int 0, .int 0, .int 0, .int 0, .int 0, .int 0, .int 0, .int 0, .int 0, .int 0, .int 0, .int 0, .int 0, .int 0, .int 0, .int 0, .null, .null, .null]))] := hD
  refine W.widen (k := 1) (n := 20) (Nat.le_of_ble_eq_true rfl) (Nat.le_of_ble_eq_true rfl) ?_
  refine lv_dup hx hb dX3_init_8 rfl ?_
  refine lv_iload_n hx hb dX3_init_9 rfl (lv_at hl 1 rfl) ?_
  refine lv_iload_n hx hb dX3_init_10 rfl (lv_at hl 2 rfl) ?_
  have hPc := hP.sub (ws' := [(q_1, .inr (8, [.int 0, .int 0, .int 0, .int 0, .int 0, .int 0, .int 0, .int 0, .int 0, .int 0, .int 0, .int 0, .int 0, .int 0, .int 0, .int 0, .int 0, .null, .null, .null]))]) [1] rfl
  have hDc := hD.sub (ws' := [(q_1, .inr (8, [.int 0, .int 0, .int 0, .int 0, .int 0, .int 0, .int 0, .int 0, .int 0, .int 0, .int 0, .int 0, .int 0, .int 0, .int 0, .int 0, .int 0, .null, .null, .null]))]) [1] (by decide) rfl
  have hFc := va_free (wc := [(q_1, .inr (8, [.int 0, .int 0, .int 0, .int 0, .int 0, .int 0, .int 0, .int 0, .int 0, .int 0, .int 0, .int 0, .int 0, .int 0, .int 0, .int 0, .int 0, .null, .null, .null]))]) hD hS hA [1] rfl
  refine va_callv (va_runI (As := [.int n0, .int k0]) (rest := [.ref q_1, .ref h0]) ⟨hx, hb, hml, hown, ha⟩ (c_Sender l D cI cJ cZ cO _ q_1 n0 k0) (cwI 2 ha (gaI kd_X8_init) rfl rfl rfl (ha _ kz_X8) (ha _ kl_X3_9) (ha _ km_X8_init) rfl (by decide +kernel) ⟨Nat.le_of_ble_eq_true rfl, Nat.le_of_ble_eq_true rfl⟩) ⟨pw_blind, fun U hU hW => ⟨rfl, pw_start hU hW hPc hK hDc hN⟩⟩ rfl rfl hl.1 rfl (lv_room (Nat.le_of_ble_eq_true rfl)) dX3_init_11 ⟨Nat.le_of_ble_eq_true rfl, Nat.le_of_ble_eq_true rfl⟩) hS (fun q _ h => hFc q h) hFc (fun u t H1 locs ht hvm hw hB hz1 hk1 hS => ?_)
  obtain ⟨q_3, q_4, q_5, q_6, q_7, q_8, q_9, hP1, hK1, hD1⟩ := hB
  rw [ht] at hP1
  obtain ⟨hP, hD⟩ := va_join (wr := [(h0, .inr (3, [.null, .null]))]) (w1 := [(q_1, .inr (8, [.int n0, .int k0, .int 0, .int 0, .int 0, .int 0, .int 2048, .int 2048, .int 1048576, .int 40, .int 0, .int 0, .int 0, .int 0, .int 0, .int 0, .int 0, .ref q_3, .ref q_4, .ref q_9])), (q_3, .inr (9, [.int 1000, .int 0, .int 0, .int (-1), .int (-1), .int 0])), (q_4, .inr (0, [.ref q_5, .ref q_7, .int 0, .int (-1)])), (q_5, mkC q_6), (q_6, .inl (cJ, 4, .inr (.inl (fun _ => 0)))), (q_7, mkC q_8), (q_8, .inl (cJ, 4, .inr (.inl (fun _ => 0)))), (q_9, .inr (2, [.int 0, .int 0, .int (-1), .int 0, .int 0]))]) hP hD [1] [0] rfl rfl (by decide) (by decide) hk1 hFc hP1 hD1
  generalize H1 = H at hP hS ⊢
  have hP : va_P D vwCl [(h0, .inr (3, [.null, .null])), (q_1, .inr (8, [.int n0, .int k0, .int 0, .int 0, .int 0, .int 0, .int 2048, .int 2048, .int 1048576, .int 40, .int 0, .int 0, .int 0, .int 0, .int 0, .int 0, .int 0, .ref q_3, .ref q_4, .ref q_9])), (q_3, .inr (9, [.int 1000, .int 0, .int 0, .int (-1), .int (-1), .int 0])), (q_4, .inr (0, [.ref q_5, .ref q_7, .int 0, .int (-1)])), (q_5, mkC q_6), (q_6, .inl (cJ, 4, .inr (.inl (fun _ => 0)))), (q_7, mkC q_8), (q_8, .inl (cJ, 4, .inr (.inl (fun _ => 0)))), (q_9, .inr (2, [.int 0, .int 0, .int (-1), .int 0, .int 0]))] H := hP
  have hD : va_D A [(h0, .inr (3, [.null, .null])), (q_1, .inr (8, [.int n0, .int k0, .int 0, .int 0, .int 0, .int 0, .int 2048, .int 2048, .int 1048576, .int 40, .int 0, .int 0, .int 0, .int 0, .int 0, .int 0, .int 0, .ref q_3, .ref q_4, .ref q_9])), (q_3, .inr (9, [.int 1000, .int 0, .int 0, .int (-1), .int (-1), .int 0])), (q_4, .inr (0, [.ref q_5, .ref q_7, .int 0, .int (-1)])), (q_5, mkC q_6), (q_6, .inl (cJ, 4, .inr (.inl (fun _ => 0)))), (q_7, mkC q_8), (q_8, .inl (cJ, 4, .inr (.inl (fun _ => 0)))), (q_9, .inr (2, [.int 0, .int 0, .int (-1), .int 0, .int 0]))] := hD
  refine W.widen (k := 8) (n := 45) (Nat.le_of_ble_eq_true rfl) (Nat.le_of_ble_eq_true rfl) ?_
  refine va_putF (D := D) (ci := 3) (v := .ref q_1) (ty := .object "CongestionBench$Sender") (C := RX3) (T := TX3) (N := 2) hx hb ha inlX3 tyX3 tyX3_ok nmX3 hown hK hP hD hS 0 rfl rfl 0 (by decide) (ha _ kf_X3_12) (fun _ h9 => h9) rfl hin rfl (by decide +kernel) rfl rfl (Nat.le_of_ble_eq_true rfl) dX3_init_14 (fun H locs hP hD hS => ?_)
  have hP : va_P D vwCl [(h0, .inr (3, [.ref q_1, .null])), (q_1, .inr (8, [.int n0, .int k0, .int 0, .int 0, .int 0, .int 0, .int 2048, .int 2048, .int 1048576, .int 40, .int 0, .int 0, .int 0, .int 0, .int 0, .int 0, .int 0, .ref q_3, .ref q_4, .ref q_9])), (q_3, .inr (9, [.int 1000, .int 0, .int 0, .int (-1), .int (-1), .int 0])), (q_4, .inr (0, [.ref q_5, .ref q_7, .int 0, .int (-1)])), (q_5, mkC q_6), (q_6, .inl (cJ, 4, .inr (.inl (fun _ => 0)))), (q_7, mkC q_8), (q_8, .inl (cJ, 4, .inr (.inl (fun _ => 0)))), (q_9, .inr (2, [.int 0, .int 0, .int (-1), .int 0, .int 0]))] H := hP
  have hD : va_D A [(h0, .inr (3, [.ref q_1, .null])), (q_1, .inr (8, [.int n0, .int k0, .int 0, .int 0, .int 0, .int 0, .int 2048, .int 2048, .int 1048576, .int 40, .int 0, .int 0, .int 0, .int 0, .int 0, .int 0, .int 0, .ref q_3, .ref q_4, .ref q_9])), (q_3, .inr (9, [.int 1000, .int 0, .int 0, .int (-1), .int (-1), .int 0])), (q_4, .inr (0, [.ref q_5, .ref q_7, .int 0, .int (-1)])), (q_5, mkC q_6), (q_6, .inl (cJ, 4, .inr (.inl (fun _ => 0)))), (q_7, mkC q_8), (q_8, .inl (cJ, 4, .inr (.inl (fun _ => 0)))), (q_9, .inr (2, [.int 0, .int 0, .int (-1), .int 0, .int 0]))] := hD
  refine lv_aload_n hx hb dX3_init_17 rfl (lv_at hl 0 rfl) ?_
  refine va_new (ci := 6) (fs := [.int 0, .int 0, .int 0, .int 0, .null, .int 0, .int 0, .int 0, .int 0, .int 0, .int 0]) (C := RX6) (T := TX6) (N := 11) hx hb ha inlX6 tyX6 tyX6_ok hown (ha _ kc_X3_18) (ha _ ki_X6) (ha _ kz_X6) hK hP hD hS hA rfl (by decide) (Nat.le_of_ble_eq_true rfl) (Nat.le_of_ble_eq_true rfl) dX3_init_18 (fun q_10 H hP hD hS => ?_)
  have hP : va_P D vwCl [(h0, .inr (3, [.ref q_1, .null])), (q_1, .inr (8, [.int n0, .int k0, .int 0, .int 0, .int 0, .int 0, .int 2048, .int 2048, .int 1048576, .int 40, .int 0, .int 0, .int 0, .int 0, .int 0, .int 0, .int 0, .ref q_3, .ref q_4, .ref q_9])), (q_3, .inr (9, [.int 1000, .int 0, .int 0, .int (-1), .int (-1), .int 0])), (q_4, .inr (0, [.ref q_5, .ref q_7, .int 0, .int (-1)])), (q_5, mkC q_6), (q_6, .inl (cJ, 4, .inr (.inl (fun _ => 0)))), (q_7, mkC q_8), (q_8, .inl (cJ, 4, .inr (.inl (fun _ => 0)))), (q_9, .inr (2, [.int 0, .int 0, .int (-1), .int 0, .int 0])), (q_10, .inr (6, [.int 0, .int 0, .int 0, .int 0, .null, .int 0, .int 0, .int 0, .int 0, .int 0, .int 0]))] H := hP
  have hD : va_D A [(h0, .inr (3, [.ref q_1, .null])), (q_1, .inr (8, [.int n0, .int k0, .int 0, .int 0, .int 0, .int 0, .int 2048, .int 2048, .int 1048576, .int 40, .int 0, .int 0, .int 0, .int 0, .int 0, .int 0, .int 0, .ref q_3, .ref q_4, .ref q_9])), (q_3, .inr (9, [.int 1000, .int 0, .int 0, .int (-1), .int (-1), .int 0])), (q_4, .inr (0, [.ref q_5, .ref q_7, .int 0, .int (-1)])), (q_5, mkC q_6), (q_6, .inl (cJ, 4, .inr (.inl (fun _ => 0)))), (q_7, mkC q_8), (q_8, .inl (cJ, 4, .inr (.inl (fun _ => 0)))), (q_9, .inr (2, [.int 0, .int 0, .int (-1), .int 0, .int 0])), (q_10, .inr (6, [.int 0, .int 0, .int 0, .int 0, .null, .int 0, .int 0, .int 0, .int 0, .int 0, .int 0]))] := hD
  refine W.widen (k := 9) (n := 56) (Nat.le_of_ble_eq_true rfl) (Nat.le_of_ble_eq_true rfl) ?_
  refine lv_dup hx hb dX3_init_21 rfl ?_
  refine lv_iload_n hx hb dX3_init_22 rfl (lv_at hl 1 rfl) ?_
  refine lv_iload_n hx hb dX3_init_23 rfl (lv_at hl 3 rfl) ?_
  have hPc := hP.sub (ws' := [(q_10, .inr (6, [.int 0, .int 0, .int 0, .int 0, .null, .int 0, .int 0, .int 0, .int 0, .int 0, .int 0]))]) [9] rfl
  have hDc := hD.sub (ws' := [(q_10, .inr (6, [.int 0, .int 0, .int 0, .int 0, .null, .int 0, .int 0, .int 0, .int 0, .int 0, .int 0]))]) [9] (by decide) rfl
  have hFc := va_free (wc := [(q_10, .inr (6, [.int 0, .int 0, .int 0, .int 0, .null, .int 0, .int 0, .int 0, .int 0, .int 0, .int 0]))]) hD hS hA [9] rfl
  refine va_callv (va_runI (As := [.int n0, .int b0]) (rest := [.ref q_10, .ref h0]) ⟨hx, hb, hml, hown, ha⟩ (c_Receiver l D cI cJ cZ cO _ q_10 n0 b0 hz) (cwI 2 ha (gaI kd_X6_init) rfl rfl rfl (ha _ kz_X6) (ha _ kl_X3_20) (ha _ km_X6_init) rfl (by decide +kernel) ⟨Nat.le_of_ble_eq_true rfl, Nat.le_of_ble_eq_true rfl⟩) ⟨pw_blind, fun U hU hW => ⟨rfl, pw_start hU hW hPc hK hDc hN⟩⟩ rfl rfl hl.1 rfl (lv_room (Nat.le_of_ble_eq_true rfl)) dX3_init_24 ⟨Nat.le_of_ble_eq_true rfl, Nat.le_of_ble_eq_true rfl⟩) hS (fun q _ h => hFc q h) hFc (fun u t H1 locs ht hvm hw hB hz1 hk1 hS => ?_)
  obtain ⟨q_12, q_13, hP1, hK1, hD1⟩ := hB
  rw [ht] at hP1
  obtain ⟨hP, hD⟩ := va_join (wr := [(h0, .inr (3, [.ref q_1, .null])), (q_1, .inr (8, [.int n0, .int k0, .int 0, .int 0, .int 0, .int 0, .int 2048, .int 2048, .int 1048576, .int 40, .int 0, .int 0, .int 0, .int 0, .int 0, .int 0, .int 0, .ref q_3, .ref q_4, .ref q_9])), (q_3, .inr (9, [.int 1000, .int 0, .int 0, .int (-1), .int (-1), .int 0])), (q_4, .inr (0, [.ref q_5, .ref q_7, .int 0, .int (-1)])), (q_5, mkC q_6), (q_6, .inl (cJ, 4, .inr (.inl (fun _ => 0)))), (q_7, mkC q_8), (q_8, .inl (cJ, 4, .inr (.inl (fun _ => 0)))), (q_9, .inr (2, [.int 0, .int 0, .int (-1), .int 0, .int 0]))]) (w1 := [(q_10, .inr (6, [.int n0, .int b0, .int 0, .int 40, .ref q_12, .int 0, .int 0, .int 0, .int 0, .int (-1), .int 0])), (q_12, mkC q_13), (q_13, .inl (cJ, 4, .inr (.inl (fun _ => 0))))]) hP hD [9] [0, 1, 2, 3, 4, 5, 6, 7, 8] rfl rfl (by decide) (by decide) hk1 hFc hP1 hD1
  generalize H1 = H at hP hS ⊢
  have hP : va_P D vwCl [(h0, .inr (3, [.ref q_1, .null])), (q_1, .inr (8, [.int n0, .int k0, .int 0, .int 0, .int 0, .int 0, .int 2048, .int 2048, .int 1048576, .int 40, .int 0, .int 0, .int 0, .int 0, .int 0, .int 0, .int 0, .ref q_3, .ref q_4, .ref q_9])), (q_3, .inr (9, [.int 1000, .int 0, .int 0, .int (-1), .int (-1), .int 0])), (q_4, .inr (0, [.ref q_5, .ref q_7, .int 0, .int (-1)])), (q_5, mkC q_6), (q_6, .inl (cJ, 4, .inr (.inl (fun _ => 0)))), (q_7, mkC q_8), (q_8, .inl (cJ, 4, .inr (.inl (fun _ => 0)))), (q_9, .inr (2, [.int 0, .int 0, .int (-1), .int 0, .int 0])), (q_10, .inr (6, [.int n0, .int b0, .int 0, .int 40, .ref q_12, .int 0, .int 0, .int 0, .int 0, .int (-1), .int 0])), (q_12, mkC q_13), (q_13, .inl (cJ, 4, .inr (.inl (fun _ => 0))))] H := hP
  have hD : va_D A [(h0, .inr (3, [.ref q_1, .null])), (q_1, .inr (8, [.int n0, .int k0, .int 0, .int 0, .int 0, .int 0, .int 2048, .int 2048, .int 1048576, .int 40, .int 0, .int 0, .int 0, .int 0, .int 0, .int 0, .int 0, .ref q_3, .ref q_4, .ref q_9])), (q_3, .inr (9, [.int 1000, .int 0, .int 0, .int (-1), .int (-1), .int 0])), (q_4, .inr (0, [.ref q_5, .ref q_7, .int 0, .int (-1)])), (q_5, mkC q_6), (q_6, .inl (cJ, 4, .inr (.inl (fun _ => 0)))), (q_7, mkC q_8), (q_8, .inl (cJ, 4, .inr (.inl (fun _ => 0)))), (q_9, .inr (2, [.int 0, .int 0, .int (-1), .int 0, .int 0])), (q_10, .inr (6, [.int n0, .int b0, .int 0, .int 40, .ref q_12, .int 0, .int 0, .int 0, .int 0, .int (-1), .int 0])), (q_12, mkC q_13), (q_13, .inl (cJ, 4, .inr (.inl (fun _ => 0))))] := hD
  refine W.widen (k := 11) (n := 61) (Nat.le_of_ble_eq_true rfl) (Nat.le_of_ble_eq_true rfl) ?_
  refine va_putF (D := D) (ci := 3) (v := .ref q_10) (ty := .object "CongestionBench$Receiver") (C := RX3) (T := TX3) (N := 2) hx hb ha inlX3 tyX3 tyX3_ok nmX3 hown hK hP hD hS 0 rfl rfl 1 (by decide) (ha _ kf_X3_23) (fun _ h9 => h9) rfl hin rfl (by decide +kernel) rfl rfl (Nat.le_of_ble_eq_true rfl) dX3_init_27 (fun H locs hP hD hS => ?_)
  have hP : va_P D vwCl [(h0, fwC q_1 q_10), (q_1, .inr (8, [.int n0, .int k0, .int 0, .int 0, .int 0, .int 0, .int 2048, .int 2048, .int 1048576, .int 40, .int 0, .int 0, .int 0, .int 0, .int 0, .int 0, .int 0, .ref q_3, .ref q_4, .ref q_9])), (q_3, .inr (9, [.int 1000, .int 0, .int 0, .int (-1), .int (-1), .int 0])), (q_4, .inr (0, [.ref q_5, .ref q_7, .int 0, .int (-1)])), (q_5, mkC q_6), (q_6, .inl (cJ, 4, .inr (.inl (fun _ => 0)))), (q_7, mkC q_8), (q_8, .inl (cJ, 4, .inr (.inl (fun _ => 0)))), (q_9, .inr (2, [.int 0, .int 0, .int (-1), .int 0, .int 0])), (q_10, .inr (6, [.int n0, .int b0, .int 0, .int 40, .ref q_12, .int 0, .int 0, .int 0, .int 0, .int (-1), .int 0])), (q_12, mkC q_13), (q_13, .inl (cJ, 4, .inr (.inl (fun _ => 0))))] H := hP
  have hD : va_D A [(h0, fwC q_1 q_10), (q_1, .inr (8, [.int n0, .int k0, .int 0, .int 0, .int 0, .int 0, .int 2048, .int 2048, .int 1048576, .int 40, .int 0, .int 0, .int 0, .int 0, .int 0, .int 0, .int 0, .ref q_3, .ref q_4, .ref q_9])), (q_3, .inr (9, [.int 1000, .int 0, .int 0, .int (-1), .int (-1), .int 0])), (q_4, .inr (0, [.ref q_5, .ref q_7, .int 0, .int (-1)])), (q_5, mkC q_6), (q_6, .inl (cJ, 4, .inr (.inl (fun _ => 0)))), (q_7, mkC q_8), (q_8, .inl (cJ, 4, .inr (.inl (fun _ => 0)))), (q_9, .inr (2, [.int 0, .int 0, .int (-1), .int 0, .int 0])), (q_10, .inr (6, [.int n0, .int b0, .int 0, .int 40, .ref q_12, .int 0, .int 0, .int 0, .int 0, .int (-1), .int 0])), (q_12, mkC q_13), (q_13, .inl (cJ, 4, .inr (.inl (fun _ => 0))))] := hD
  have hP9 := hP.sub (ws' := [(h0, fwC q_1 q_10)]) [0] rfl
  have hD9 := hD.sub (ws' := [(h0, fwC q_1 q_10)]) [0] (by decide) rfl
  exact W.vret hx hb hr (fun t ht hW => ⟨⟨(), rfl, trivial, ⟨q_1, q_10, by rw [ht]; exact hP9, va_K.moved hW.alike hK, hD9⟩⟩, hS.F ht⟩) hS.2.2 dX3_init_30

set_option maxHeartbeats 4000000 in
set_option maxRecDepth 100000 in
theorem c_Road (l : Launch) (D : va_G) (cI cJ cZ cO : ClassId) (sz : Nat) (h0 : Nat) : Met l yX7_init (wa yX7_init cX7_init 1 none) ({ frames := 2, cells := 5, slots := 76, locals := 40 }) (va_Pc [.ref h0] (pw_s D cI cJ cZ cO sz [(h0, .inr (7, [.int 0, .int 0, .int 0, .int 0, .null, .null, .null, .null, .null, .null, .int 0, .int 0, .int 0, .int 0, .int 0]))])) (va_Qv (fun (_ : Unit) => True) (fun (_ : Unit) (t : State) => ∃ (q1 q2 q3 q4 q5 : Nat), pw_t D cI cJ cZ cO (va_A [(h0, .inr (7, [.int 0, .int 0, .int 0, .int 0, .null, .null, .null, .null, .null, .null, .int 0, .int 0, .int 0, .int 0, .int 0]))] sz) [(h0, .inr (7, [.int 10, .int 20, .int 20, .int 20, .null, .ref q1, .ref q2, .ref q3, .ref q4, .ref q5, .int 0, .int 0, .int 0, .int 0, .int 0])), (q1, .inr (1, [.null, .null, .int 0])), (q2, .inr (1, [.null, .null, .int 0])), (q3, .inr (1, [.null, .null, .int 0])), (q4, .inr (1, [.null, .null, .int 0])), (q5, .inl (cI, 64, .inl (fun _ => 0)))] t) (va_A [(h0, .inr (7, [.int 0, .int 0, .int 0, .int 0, .null, .null, .null, .null, .null, .null, .int 0, .int 0, .int 0, .int 0, .int 0]))] sz)) 5 76 (va_A [(h0, .inr (7, [.int 0, .int 0, .int 0, .int 0, .null, .null, .null, .null, .null, .null, .int 0, .int 0, .int 0, .int 0, .int 0]))] sz) := by
  refine Met.ofW (cc := cX7_init) (maxL := 1) (ret := none) (by decide) rfl ?_
  intro p e s m args below meth c s₁ B hml hv
  obtain ⟨rfl, hsz, hP, hK, hD0, hN⟩ := hv
  have hx := B.exec
  have hb := B.bytes
  have hr := B.returns
  have hts := atoms_spec (ws := (wa yX7_init cX7_init 1 none)) B.pre
  have ha : ∀ w ∈ wsL_law, w.before _ s = true := fun w h => hts w (List.mem_cons_of_mem _ h)
  have hown : s.vm.findClass RX7 = some m.cls := findClass_of_methodNamed B.named
  have hlocks := B.notSynchronized
  have hin : meth.name = "<init>" := (name_of_methodNamed B.named B.method).1
  subst hsz
  have hD := hD0.self (sz := s.heap.size)
  generalize hAe : va_A [(h0, .inr (7, [.int 0, .int 0, .int 0, .int 0, .null, .null, .null, .null, .null, .null, .int 0, .int 0, .int 0, .int 0, .int 0]))] s.heap.size = A at hD ⊢
  have hA : ∀ q : Nat, s.heap.size ≤ q → A q := fun q h => by rw [← hAe]; exact Or.inr h
  have hS : va_S A s.heap s.heap [] := va_S.rf
  have hP : va_P D vwCl [(h0, .inr (7, [.int 0, .int 0, .int 0, .int 0, .null, .null, .null, .null, .null, .null, .int 0, .int 0, .int 0, .int 0, .int 0]))] s.heap := hP
  have hl := lv_entry ([.ref h0]) (n := 1) (Nat.le_of_ble_eq_true rfl)
  rw [lg_entry_eq]
  generalize (lg_sl ([.ref h0]) ++ List.replicate (1 - (lg_sl ([.ref h0])).length) Slot.unset).toArray = ls at hl ⊢
  have hl : lv_has ls 1 [(0, .ref h0)] := hl
  refine lv_aload_n hx hb dX7_init_0 rfl (lv_at hl 0 rfl) ?_
  refine W.objInit hx hb hown (ha _ kl_X7_3) (ha _ km_obj) (ha _ kd_obj) rfl (by rw [hml]; exact hl.1) rfl dX7_init_1 (Nat.le_of_ble_eq_true rfl) (Nat.le_of_ble_eq_true rfl) ?_
  refine W.eq (g2 := F0 m 4 ls []) rfl ?_
  refine lv_aload_n hx hb dX7_init_4 rfl (lv_at hl 0 rfl) ?_
  refine lv_bipush (v := 10) hx hb dX7_init_5 (by decide) ?_
  refine va_put (D := D) (ci := 7) (v := .int 10) (ty := .int) (C := RX7) (T := TX7) (N := 15) hx hb ha inlX7 tyX7 tyX7_ok nmX7 hown hK hP hD hS 0 rfl rfl 0 (by decide) (ha _ kf_X7_9) (fun _ h9 => h9) rfl (by decide +kernel) rfl rfl (Nat.le_of_ble_eq_true rfl) dX7_init_7 (fun H locs hP hD hS => ?_)
  have hP : va_P D vwCl [(h0, .inr (7, [.int 10, .int 0, .int 0, .int 0, .null, .null, .null, .null, .null, .null, .int 0, .int 0, .int 0, .int 0, .int 0]))] H := hP
  have hD : va_D A [(h0, .inr (7, [.int 10, .int 0, .int 0, .int 0, .null, .null, .null, .null, .null, .null, .int 0, .int 0, .int 0, .int 0, .int 0]))] := hD
  refine lv_aload_n hx hb dX7_init_10 rfl (lv_at hl 0 rfl) ?_
  refine lv_bipush (v := 20) hx hb dX7_init_11 (by decide) ?_
  refine va_put (D := D) (ci := 7) (v := .int 20) (ty := .int) (C := RX7) (T := TX7) (N := 15) hx hb ha inlX7 tyX7 tyX7_ok nmX7 hown hK hP hD hS 0 rfl rfl 1 (by decide) (ha _ kf_X7_15) (fun _ h9 => h9) rfl (by decide +kernel) rfl rfl (Nat.le_of_ble_eq_true rfl) dX7_init_13 (fun H locs hP hD hS => ?_)
  have hP : va_P D vwCl [(h0, .inr (7, [.int 10, .int 20, .int 0, .int 0, .null, .null, .null, .null, .null, .null, .int 0, .int 0, .int 0, .int 0, .int 0]))] H := hP
  have hD : va_D A [(h0, .inr (7, [.int 10, .int 20, .int 0, .int 0, .null, .null, .null, .null, .null, .null, .int 0, .int 0, .int 0, .int 0, .int 0]))] := hD
  refine lv_aload_n hx hb dX7_init_16 rfl (lv_at hl 0 rfl) ?_
  refine lv_bipush (v := 20) hx hb dX7_init_17 (by decide) ?_
  refine va_put (D := D) (ci := 7) (v := .int 20) (ty := .int) (C := RX7) (T := TX7) (N := 15) hx hb ha inlX7 tyX7 tyX7_ok nmX7 hown hK hP hD hS 0 rfl rfl 2 (by decide) (ha _ kf_X7_18) (fun _ h9 => h9) rfl (by decide +kernel) rfl rfl (Nat.le_of_ble_eq_true rfl) dX7_init_19 (fun H locs hP hD hS => ?_)
  have hP : va_P D vwCl [(h0, .inr (7, [.int 10, .int 20, .int 20, .int 0, .null, .null, .null, .null, .null, .null, .int 0, .int 0, .int 0, .int 0, .int 0]))] H := hP
  have hD : va_D A [(h0, .inr (7, [.int 10, .int 20, .int 20, .int 0, .null, .null, .null, .null, .null, .null, .int 0, .int 0, .int 0, .int 0, .int 0]))] := hD
  refine lv_aload_n hx hb dX7_init_22 rfl (lv_at hl 0 rfl) ?_
  refine lv_bipush (v := 20) hx hb dX7_init_23 (by decide) ?_
  refine va_put (D := D) (ci := 7) (v := .int 20) (ty := .int) (C := RX7) (T := TX7) (N := 15) hx hb ha inlX7 tyX7 tyX7_ok nmX7 hown hK hP hD hS 0 rfl rfl 3 (by decide) (ha _ kf_X7_21) (fun _ h9 => h9) rfl (by decide +kernel) rfl rfl (Nat.le_of_ble_eq_true rfl) dX7_init_25 (fun H locs hP hD hS => ?_)
  have hP : va_P D vwCl [(h0, .inr (7, [.int 10, .int 20, .int 20, .int 20, .null, .null, .null, .null, .null, .null, .int 0, .int 0, .int 0, .int 0, .int 0]))] H := hP
  have hD : va_D A [(h0, .inr (7, [.int 10, .int 20, .int 20, .int 20, .null, .null, .null, .null, .null, .null, .int 0, .int 0, .int 0, .int 0, .int 0]))] := hD
  refine lv_aload_n hx hb dX7_init_28 rfl (lv_at hl 0 rfl) ?_
  refine va_new (ci := 1) (fs := [.null, .null, .int 0]) (C := RX1) (T := TX1) (N := 3) hx hb ha inlX1 tyX1 tyX1_ok hown (ha _ kc_X7_24) (ha _ ki_X1) (ha _ kz_X1) hK hP hD hS hA rfl (by decide) (Nat.le_of_ble_eq_true rfl) (Nat.le_of_ble_eq_true rfl) dX7_init_29 (fun q_1 H hP hD hS => ?_)
  have hP : va_P D vwCl [(h0, .inr (7, [.int 10, .int 20, .int 20, .int 20, .null, .null, .null, .null, .null, .null, .int 0, .int 0, .int 0, .int 0, .int 0])), (q_1, .inr (1, [.null, .null, .int 0]))] H := hP
  have hD : va_D A [(h0, .inr (7, [.int 10, .int 20, .int 20, .int 20, .null, .null, .null, .null, .null, .null, .int 0, .int 0, .int 0, .int 0, .int 0])), (q_1, .inr (1, [.null, .null, .int 0]))] := hD
  refine W.widen (k := 1) (n := 3) (Nat.le_of_ble_eq_true rfl) (Nat.le_of_ble_eq_true rfl) ?_
  refine lv_dup hx hb dX7_init_32 rfl ?_
  have hPc := hP.sub (ws' := [(q_1, .inr (1, [.null, .null, .int 0]))]) [1] rfl
  have hDc := hD.sub (ws' := [(q_1, .inr (1, [.null, .null, .int 0]))]) [1] (by decide) rfl
  have hFc := va_free (wc := [(q_1, .inr (1, [.null, .null, .int 0]))]) hD hS hA [1] rfl
  refine va_callv (va_runIN (As := []) (rest := [.ref q_1, .ref h0]) ⟨hx, hb, hml, hown, ha⟩ (c_Chain l D cI cJ cZ cO _ q_1) ⟨va_cnB 0 ha (gaI kd_X1_init) rfl rfl rfl (hN.m RX7 26 yX1_init "CongestionBench" (by decide +kernel)) (ha _ kz_X1) (by decide +kernel) ⟨Nat.le_of_ble_eq_true rfl, Nat.le_of_ble_eq_true rfl⟩, rfl, ha _ km_X1_init⟩ ⟨pw_blind, fun U hU hW => ⟨rfl, pw_start hU hW hPc hK hDc hN⟩⟩ rfl rfl hl.1 rfl (lv_room (Nat.le_of_ble_eq_true rfl)) dX7_init_33 ⟨Nat.le_of_ble_eq_true rfl, Nat.le_of_ble_eq_true rfl⟩) hS (fun q _ h => hFc q h) hFc (fun u t H1 locs ht hvm hw hB hz1 hk1 hS => ?_)
  obtain ⟨hP1, hK1, hD1⟩ := hB
  rw [ht] at hP1
  obtain ⟨hP, hD⟩ := va_join (wr := [(h0, .inr (7, [.int 10, .int 20, .int 20, .int 20, .null, .null, .null, .null, .null, .null, .int 0, .int 0, .int 0, .int 0, .int 0]))]) (w1 := [(q_1, .inr (1, [.null, .null, .int 0]))]) hP hD [1] [0] rfl rfl (by decide) (by decide) hk1 hFc hP1 hD1
  generalize H1 = H at hP hS ⊢
  have hP : va_P D vwCl [(h0, .inr (7, [.int 10, .int 20, .int 20, .int 20, .null, .null, .null, .null, .null, .null, .int 0, .int 0, .int 0, .int 0, .int 0])), (q_1, .inr (1, [.null, .null, .int 0]))] H := hP
  have hD : va_D A [(h0, .inr (7, [.int 10, .int 20, .int 20, .int 20, .null, .null, .null, .null, .null, .null, .int 0, .int 0, .int 0, .int 0, .int 0])), (q_1, .inr (1, [.null, .null, .int 0]))] := hD
  refine W.widen (k := 1) (n := 3) (Nat.le_of_ble_eq_true rfl) (Nat.le_of_ble_eq_true rfl) ?_
  refine va_putF (D := D) (ci := 7) (v := .ref q_1) (ty := .object "CongestionBench$Chain") (C := RX7) (T := TX7) (N := 15) hx hb ha inlX7 tyX7 tyX7_ok nmX7 hown hK hP hD hS 0 rfl rfl 5 (by decide) (ha _ kf_X7_27) (fun _ h9 => h9) rfl hin rfl (by decide +kernel) rfl rfl (Nat.le_of_ble_eq_true rfl) dX7_init_36 (fun H locs hP hD hS => ?_)
  have hP : va_P D vwCl [(h0, .inr (7, [.int 10, .int 20, .int 20, .int 20, .null, .ref q_1, .null, .null, .null, .null, .int 0, .int 0, .int 0, .int 0, .int 0])), (q_1, .inr (1, [.null, .null, .int 0]))] H := hP
  have hD : va_D A [(h0, .inr (7, [.int 10, .int 20, .int 20, .int 20, .null, .ref q_1, .null, .null, .null, .null, .int 0, .int 0, .int 0, .int 0, .int 0])), (q_1, .inr (1, [.null, .null, .int 0]))] := hD
  refine lv_aload_n hx hb dX7_init_39 rfl (lv_at hl 0 rfl) ?_
  refine va_new (ci := 1) (fs := [.null, .null, .int 0]) (C := RX1) (T := TX1) (N := 3) hx hb ha inlX1 tyX1 tyX1_ok hown (ha _ kc_X7_24) (ha _ ki_X1) (ha _ kz_X1) hK hP hD hS hA rfl (by decide) (Nat.le_of_ble_eq_true rfl) (Nat.le_of_ble_eq_true rfl) dX7_init_40 (fun q_3 H hP hD hS => ?_)
  have hP : va_P D vwCl [(h0, .inr (7, [.int 10, .int 20, .int 20, .int 20, .null, .ref q_1, .null, .null, .null, .null, .int 0, .int 0, .int 0, .int 0, .int 0])), (q_1, .inr (1, [.null, .null, .int 0])), (q_3, .inr (1, [.null, .null, .int 0]))] H := hP
  have hD : va_D A [(h0, .inr (7, [.int 10, .int 20, .int 20, .int 20, .null, .ref q_1, .null, .null, .null, .null, .int 0, .int 0, .int 0, .int 0, .int 0])), (q_1, .inr (1, [.null, .null, .int 0])), (q_3, .inr (1, [.null, .null, .int 0]))] := hD
  refine W.widen (k := 2) (n := 6) (Nat.le_of_ble_eq_true rfl) (Nat.le_of_ble_eq_true rfl) ?_
  refine lv_dup hx hb dX7_init_43 rfl ?_
  have hPc := hP.sub (ws' := [(q_3, .inr (1, [.null, .null, .int 0]))]) [2] rfl
  have hDc := hD.sub (ws' := [(q_3, .inr (1, [.null, .null, .int 0]))]) [2] (by decide) rfl
  have hFc := va_free (wc := [(q_3, .inr (1, [.null, .null, .int 0]))]) hD hS hA [2] rfl
  refine va_callv (va_runIN (As := []) (rest := [.ref q_3, .ref h0]) ⟨hx, hb, hml, hown, ha⟩ (c_Chain l D cI cJ cZ cO _ q_3) ⟨va_cnB 0 ha (gaI kd_X1_init) rfl rfl rfl (hN.m RX7 26 yX1_init "CongestionBench" (by decide +kernel)) (ha _ kz_X1) (by decide +kernel) ⟨Nat.le_of_ble_eq_true rfl, Nat.le_of_ble_eq_true rfl⟩, rfl, ha _ km_X1_init⟩ ⟨pw_blind, fun U hU hW => ⟨rfl, pw_start hU hW hPc hK hDc hN⟩⟩ rfl rfl hl.1 rfl (lv_room (Nat.le_of_ble_eq_true rfl)) dX7_init_44 ⟨Nat.le_of_ble_eq_true rfl, Nat.le_of_ble_eq_true rfl⟩) hS (fun q _ h => hFc q h) hFc (fun u t H1 locs ht hvm hw hB hz1 hk1 hS => ?_)
  obtain ⟨hP1, hK1, hD1⟩ := hB
  rw [ht] at hP1
  obtain ⟨hP, hD⟩ := va_join (wr := [(h0, .inr (7, [.int 10, .int 20, .int 20, .int 20, .null, .ref q_1, .null, .null, .null, .null, .int 0, .int 0, .int 0, .int 0, .int 0])), (q_1, .inr (1, [.null, .null, .int 0]))]) (w1 := [(q_3, .inr (1, [.null, .null, .int 0]))]) hP hD [2] [0, 1] rfl rfl (by decide) (by decide) hk1 hFc hP1 hD1
  generalize H1 = H at hP hS ⊢
  have hP : va_P D vwCl [(h0, .inr (7, [.int 10, .int 20, .int 20, .int 20, .null, .ref q_1, .null, .null, .null, .null, .int 0, .int 0, .int 0, .int 0, .int 0])), (q_1, .inr (1, [.null, .null, .int 0])), (q_3, .inr (1, [.null, .null, .int 0]))] H := hP
  have hD : va_D A [(h0, .inr (7, [.int 10, .int 20, .int 20, .int 20, .null, .ref q_1, .null, .null, .null, .null, .int 0, .int 0, .int 0, .int 0, .int 0])), (q_1, .inr (1, [.null, .null, .int 0])), (q_3, .inr (1, [.null, .null, .int 0]))] := hD
  refine W.widen (k := 2) (n := 6) (Nat.le_of_ble_eq_true rfl) (Nat.le_of_ble_eq_true rfl) ?_
  refine va_putF (D := D) (ci := 7) (v := .ref q_3) (ty := .object "CongestionBench$Chain") (C := RX7) (T := TX7) (N := 15) hx hb ha inlX7 tyX7 tyX7_ok nmX7 hown hK hP hD hS 0 rfl rfl 6 (by decide) (ha _ kf_X7_31) (fun _ h9 => h9) rfl hin rfl (by decide +kernel) rfl rfl (Nat.le_of_ble_eq_true rfl) dX7_init_47 (fun H locs hP hD hS => ?_)
  have hP : va_P D vwCl [(h0, .inr (7, [.int 10, .int 20, .int 20, .int 20, .null, .ref q_1, .ref q_3, .null, .null, .null, .int 0, .int 0, .int 0, .int 0, .int 0])), (q_1, .inr (1, [.null, .null, .int 0])), (q_3, .inr (1, [.null, .null, .int 0]))] H := hP
  have hD : va_D A [(h0, .inr (7, [.int 10, .int 20, .int 20, .int 20, .null, .ref q_1, .ref q_3, .null, .null, .null, .int 0, .int 0, .int 0, .int 0, .int 0])), (q_1, .inr (1, [.null, .null, .int 0])), (q_3, .inr (1, [.null, .null, .int 0]))] := hD
  refine lv_aload_n hx hb dX7_init_50 rfl (lv_at hl 0 rfl) ?_
  refine va_new (ci := 1) (fs := [.null, .null, .int 0]) (C := RX1) (T := TX1) (N := 3) hx hb ha inlX1 tyX1 tyX1_ok hown (ha _ kc_X7_24) (ha _ ki_X1) (ha _ kz_X1) hK hP hD hS hA rfl (by decide) (Nat.le_of_ble_eq_true rfl) (Nat.le_of_ble_eq_true rfl) dX7_init_51 (fun q_5 H hP hD hS => ?_)
  have hP : va_P D vwCl [(h0, .inr (7, [.int 10, .int 20, .int 20, .int 20, .null, .ref q_1, .ref q_3, .null, .null, .null, .int 0, .int 0, .int 0, .int 0, .int 0])), (q_1, .inr (1, [.null, .null, .int 0])), (q_3, .inr (1, [.null, .null, .int 0])), (q_5, .inr (1, [.null, .null, .int 0]))] H := hP
  have hD : va_D A [(h0, .inr (7, [.int 10, .int 20, .int 20, .int 20, .null, .ref q_1, .ref q_3, .null, .null, .null, .int 0, .int 0, .int 0, .int 0, .int 0])), (q_1, .inr (1, [.null, .null, .int 0])), (q_3, .inr (1, [.null, .null, .int 0])), (q_5, .inr (1, [.null, .null, .int 0]))] := hD
  refine W.widen (k := 3) (n := 9) (Nat.le_of_ble_eq_true rfl) (Nat.le_of_ble_eq_true rfl) ?_
  refine lv_dup hx hb dX7_init_54 rfl ?_
  have hPc := hP.sub (ws' := [(q_5, .inr (1, [.null, .null, .int 0]))]) [3] rfl
  have hDc := hD.sub (ws' := [(q_5, .inr (1, [.null, .null, .int 0]))]) [3] (by decide) rfl
  have hFc := va_free (wc := [(q_5, .inr (1, [.null, .null, .int 0]))]) hD hS hA [3] rfl
  refine va_callv (va_runIN (As := []) (rest := [.ref q_5, .ref h0]) ⟨hx, hb, hml, hown, ha⟩ (c_Chain l D cI cJ cZ cO _ q_5) ⟨va_cnB 0 ha (gaI kd_X1_init) rfl rfl rfl (hN.m RX7 26 yX1_init "CongestionBench" (by decide +kernel)) (ha _ kz_X1) (by decide +kernel) ⟨Nat.le_of_ble_eq_true rfl, Nat.le_of_ble_eq_true rfl⟩, rfl, ha _ km_X1_init⟩ ⟨pw_blind, fun U hU hW => ⟨rfl, pw_start hU hW hPc hK hDc hN⟩⟩ rfl rfl hl.1 rfl (lv_room (Nat.le_of_ble_eq_true rfl)) dX7_init_55 ⟨Nat.le_of_ble_eq_true rfl, Nat.le_of_ble_eq_true rfl⟩) hS (fun q _ h => hFc q h) hFc (fun u t H1 locs ht hvm hw hB hz1 hk1 hS => ?_)
  obtain ⟨hP1, hK1, hD1⟩ := hB
  rw [ht] at hP1
  obtain ⟨hP, hD⟩ := va_join (wr := [(h0, .inr (7, [.int 10, .int 20, .int 20, .int 20, .null, .ref q_1, .ref q_3, .null, .null, .null, .int 0, .int 0, .int 0, .int 0, .int 0])), (q_1, .inr (1, [.null, .null, .int 0])), (q_3, .inr (1, [.null, .null, .int 0]))]) (w1 := [(q_5, .inr (1, [.null, .null, .int 0]))]) hP hD [3] [0, 1, 2] rfl rfl (by decide) (by decide) hk1 hFc hP1 hD1
  generalize H1 = H at hP hS ⊢
  have hP : va_P D vwCl [(h0, .inr (7, [.int 10, .int 20, .int 20, .int 20, .null, .ref q_1, .ref q_3, .null, .null, .null, .int 0, .int 0, .int 0, .int 0, .int 0])), (q_1, .inr (1, [.null, .null, .int 0])), (q_3, .inr (1, [.null, .null, .int 0])), (q_5, .inr (1, [.null, .null, .int 0]))] H := hP
  have hD : va_D A [(h0, .inr (7, [.int 10, .int 20, .int 20, .int 20, .null, .ref q_1, .ref q_3, .null, .null, .null, .int 0, .int 0, .int 0, .int 0, .int 0])), (q_1, .inr (1, [.null, .null, .int 0])), (q_3, .inr (1, [.null, .null, .int 0])), (q_5, .inr (1, [.null, .null, .int 0]))] := hD
  refine W.widen (k := 3) (n := 9) (Nat.le_of_ble_eq_true rfl) (Nat.le_of_ble_eq_true rfl) ?_
  refine va_putF (D := D) (ci := 7) (v := .ref q_5) (ty := .object "CongestionBench$Chain") (C := RX7) (T := TX7) (N := 15) hx hb ha inlX7 tyX7 tyX7_ok nmX7 hown hK hP hD hS 0 rfl rfl 7 (by decide) (ha _ kf_X7_34) (fun _ h9 => h9) rfl hin rfl (by decide +kernel) rfl rfl (Nat.le_of_ble_eq_true rfl) dX7_init_58 (fun H locs hP hD hS => ?_)
  have hP : va_P D vwCl [(h0, .inr (7, [.int 10, .int 20, .int 20, .int 20, .null, .ref q_1, .ref q_3, .ref q_5, .null, .null, .int 0, .int 0, .int 0, .int 0, .int 0])), (q_1, .inr (1, [.null, .null, .int 0])), (q_3, .inr (1, [.null, .null, .int 0])), (q_5, .inr (1, [.null, .null, .int 0]))] H := hP
  have hD : va_D A [(h0, .inr (7, [.int 10, .int 20, .int 20, .int 20, .null, .ref q_1, .ref q_3, .ref q_5, .null, .null, .int 0, .int 0, .int 0, .int 0, .int 0])), (q_1, .inr (1, [.null, .null, .int 0])), (q_3, .inr (1, [.null, .null, .int 0])), (q_5, .inr (1, [.null, .null, .int 0]))] := hD
  refine lv_aload_n hx hb dX7_init_61 rfl (lv_at hl 0 rfl) ?_
  refine va_new (ci := 1) (fs := [.null, .null, .int 0]) (C := RX1) (T := TX1) (N := 3) hx hb ha inlX1 tyX1 tyX1_ok hown (ha _ kc_X7_24) (ha _ ki_X1) (ha _ kz_X1) hK hP hD hS hA rfl (by decide) (Nat.le_of_ble_eq_true rfl) (Nat.le_of_ble_eq_true rfl) dX7_init_62 (fun q_7 H hP hD hS => ?_)
  have hP : va_P D vwCl [(h0, .inr (7, [.int 10, .int 20, .int 20, .int 20, .null, .ref q_1, .ref q_3, .ref q_5, .null, .null, .int 0, .int 0, .int 0, .int 0, .int 0])), (q_1, .inr (1, [.null, .null, .int 0])), (q_3, .inr (1, [.null, .null, .int 0])), (q_5, .inr (1, [.null, .null, .int 0])), (q_7, .inr (1, [.null, .null, .int 0]))] H := hP
  have hD : va_D A [(h0, .inr (7, [.int 10, .int 20, .int 20, .int 20, .null, .ref q_1, .ref q_3, .ref q_5, .null, .null, .int 0, .int 0, .int 0, .int 0, .int 0])), (q_1, .inr (1, [.null, .null, .int 0])), (q_3, .inr (1, [.null, .null, .int 0])), (q_5, .inr (1, [.null, .null, .int 0])), (q_7, .inr (1, [.null, .null, .int 0]))] := hD
  refine W.widen (k := 4) (n := 12) (Nat.le_of_ble_eq_true rfl) (Nat.le_of_ble_eq_true rfl) ?_
  refine lv_dup hx hb dX7_init_65 rfl ?_
  have hPc := hP.sub (ws' := [(q_7, .inr (1, [.null, .null, .int 0]))]) [4] rfl
  have hDc := hD.sub (ws' := [(q_7, .inr (1, [.null, .null, .int 0]))]) [4] (by decide) rfl
  have hFc := va_free (wc := [(q_7, .inr (1, [.null, .null, .int 0]))]) hD hS hA [4] rfl
  refine va_callv (va_runIN (As := []) (rest := [.ref q_7, .ref h0]) ⟨hx, hb, hml, hown, ha⟩ (c_Chain l D cI cJ cZ cO _ q_7) ⟨va_cnB 0 ha (gaI kd_X1_init) rfl rfl rfl (hN.m RX7 26 yX1_init "CongestionBench" (by decide +kernel)) (ha _ kz_X1) (by decide +kernel) ⟨Nat.le_of_ble_eq_true rfl, Nat.le_of_ble_eq_true rfl⟩, rfl, ha _ km_X1_init⟩ ⟨pw_blind, fun U hU hW => ⟨rfl, pw_start hU hW hPc hK hDc hN⟩⟩ rfl rfl hl.1 rfl (lv_room (Nat.le_of_ble_eq_true rfl)) dX7_init_66 ⟨Nat.le_of_ble_eq_true rfl, Nat.le_of_ble_eq_true rfl⟩) hS (fun q _ h => hFc q h) hFc (fun u t H1 locs ht hvm hw hB hz1 hk1 hS => ?_)
  obtain ⟨hP1, hK1, hD1⟩ := hB
  rw [ht] at hP1
  obtain ⟨hP, hD⟩ := va_join (wr := [(h0, .inr (7, [.int 10, .int 20, .int 20, .int 20, .null, .ref q_1, .ref q_3, .ref q_5, .null, .null, .int 0, .int 0, .int 0, .int 0, .int 0])), (q_1, .inr (1, [.null, .null, .int 0])), (q_3, .inr (1, [.null, .null, .int 0])), (q_5, .inr (1, [.null, .null, .int 0]))]) (w1 := [(q_7, .inr (1, [.null, .null, .int 0]))]) hP hD [4] [0, 1, 2, 3] rfl rfl (by decide) (by decide) hk1 hFc hP1 hD1
  generalize H1 = H at hP hS ⊢
  have hP : va_P D vwCl [(h0, .inr (7, [.int 10, .int 20, .int 20, .int 20, .null, .ref q_1, .ref q_3, .ref q_5, .null, .null, .int 0, .int 0, .int 0, .int 0, .int 0])), (q_1, .inr (1, [.null, .null, .int 0])), (q_3, .inr (1, [.null, .null, .int 0])), (q_5, .inr (1, [.null, .null, .int 0])), (q_7, .inr (1, [.null, .null, .int 0]))] H := hP
  have hD : va_D A [(h0, .inr (7, [.int 10, .int 20, .int 20, .int 20, .null, .ref q_1, .ref q_3, .ref q_5, .null, .null, .int 0, .int 0, .int 0, .int 0, .int 0])), (q_1, .inr (1, [.null, .null, .int 0])), (q_3, .inr (1, [.null, .null, .int 0])), (q_5, .inr (1, [.null, .null, .int 0])), (q_7, .inr (1, [.null, .null, .int 0]))] := hD
  refine W.widen (k := 4) (n := 12) (Nat.le_of_ble_eq_true rfl) (Nat.le_of_ble_eq_true rfl) ?_
  refine va_putF (D := D) (ci := 7) (v := .ref q_7) (ty := .object "CongestionBench$Chain") (C := RX7) (T := TX7) (N := 15) hx hb ha inlX7 tyX7 tyX7_ok nmX7 hown hK hP hD hS 0 rfl rfl 8 (by decide) (ha _ kf_X7_37) (fun _ h9 => h9) rfl hin rfl (by decide +kernel) rfl rfl (Nat.le_of_ble_eq_true rfl) dX7_init_69 (fun H locs hP hD hS => ?_)
  have hP : va_P D vwCl [(h0, .inr (7, [.int 10, .int 20, .int 20, .int 20, .null, .ref q_1, .ref q_3, .ref q_5, .ref q_7, .null, .int 0, .int 0, .int 0, .int 0, .int 0])), (q_1, .inr (1, [.null, .null, .int 0])), (q_3, .inr (1, [.null, .null, .int 0])), (q_5, .inr (1, [.null, .null, .int 0])), (q_7, .inr (1, [.null, .null, .int 0]))] H := hP
  have hD : va_D A [(h0, .inr (7, [.int 10, .int 20, .int 20, .int 20, .null, .ref q_1, .ref q_3, .ref q_5, .ref q_7, .null, .int 0, .int 0, .int 0, .int 0, .int 0])), (q_1, .inr (1, [.null, .null, .int 0])), (q_3, .inr (1, [.null, .null, .int 0])), (q_5, .inr (1, [.null, .null, .int 0])), (q_7, .inr (1, [.null, .null, .int 0]))] := hD
  refine lv_aload_n hx hb dX7_init_72 rfl (lv_at hl 0 rfl) ?_
  refine lv_bipush (v := 64) hx hb dX7_init_73 (by decide) ?_
  refine va_newa (atype := .int) (ty := .int) (N' := 64) (a0 := (64, .inl (fun _ => 0))) hx hb (ha _ ka_int) rfl hK hP hD hS hA (fun _ => rfl) (by decide) (by decide +kernel) (Nat.le_of_ble_eq_true rfl) (Nat.le_of_ble_eq_true rfl) (Nat.le_of_ble_eq_true rfl) dX7_init_75 (fun q_9 cA H hK1 hP hD hS => ?_)
  obtain rfl := pw_uq hK1 (i := 0) (j := 4) rfl rfl
  have hP : va_P D vwCl [(h0, .inr (7, [.int 10, .int 20, .int 20, .int 20, .null, .ref q_1, .ref q_3, .ref q_5, .ref q_7, .null, .int 0, .int 0, .int 0, .int 0, .int 0])), (q_1, .inr (1, [.null, .null, .int 0])), (q_3, .inr (1, [.null, .null, .int 0])), (q_5, .inr (1, [.null, .null, .int 0])), (q_7, .inr (1, [.null, .null, .int 0])), (q_9, .inl (cI, 64, .inl (fun _ => 0)))] H := hP
  have hD : va_D A [(h0, .inr (7, [.int 10, .int 20, .int 20, .int 20, .null, .ref q_1, .ref q_3, .ref q_5, .ref q_7, .null, .int 0, .int 0, .int 0, .int 0, .int 0])), (q_1, .inr (1, [.null, .null, .int 0])), (q_3, .inr (1, [.null, .null, .int 0])), (q_5, .inr (1, [.null, .null, .int 0])), (q_7, .inr (1, [.null, .null, .int 0])), (q_9, .inl (cI, 64, .inl (fun _ => 0)))] := hD
  refine W.widen (k := 5) (n := 76) (Nat.le_of_ble_eq_true rfl) (Nat.le_of_ble_eq_true rfl) ?_
  refine va_putF (D := D) (ci := 7) (v := .ref q_9) (ty := .array .int) (C := RX7) (T := TX7) (N := 15) hx hb ha inlX7 tyX7 tyX7_ok nmX7 hown hK hP hD hS 0 rfl rfl 9 (by decide) (ha _ kf_X7_40) (fun _ h9 => h9) rfl hin rfl (by decide +kernel) rfl rfl (Nat.le_of_ble_eq_true rfl) dX7_init_77 (fun H locs hP hD hS => ?_)
  have hP : va_P D vwCl [(h0, .inr (7, [.int 10, .int 20, .int 20, .int 20, .null, .ref q_1, .ref q_3, .ref q_5, .ref q_7, .ref q_9, .int 0, .int 0, .int 0, .int 0, .int 0])), (q_1, .inr (1, [.null, .null, .int 0])), (q_3, .inr (1, [.null, .null, .int 0])), (q_5, .inr (1, [.null, .null, .int 0])), (q_7, .inr (1, [.null, .null, .int 0])), (q_9, .inl (cI, 64, .inl (fun _ => 0)))] H := hP
  have hD : va_D A [(h0, .inr (7, [.int 10, .int 20, .int 20, .int 20, .null, .ref q_1, .ref q_3, .ref q_5, .ref q_7, .ref q_9, .int 0, .int 0, .int 0, .int 0, .int 0])), (q_1, .inr (1, [.null, .null, .int 0])), (q_3, .inr (1, [.null, .null, .int 0])), (q_5, .inr (1, [.null, .null, .int 0])), (q_7, .inr (1, [.null, .null, .int 0])), (q_9, .inl (cI, 64, .inl (fun _ => 0)))] := hD
  have hP9 := hP.sub (ws' := [(h0, .inr (7, [.int 10, .int 20, .int 20, .int 20, .null, .ref q_1, .ref q_3, .ref q_5, .ref q_7, .ref q_9, .int 0, .int 0, .int 0, .int 0, .int 0])), (q_1, .inr (1, [.null, .null, .int 0])), (q_3, .inr (1, [.null, .null, .int 0])), (q_5, .inr (1, [.null, .null, .int 0])), (q_7, .inr (1, [.null, .null, .int 0])), (q_9, .inl (cI, 64, .inl (fun _ => 0)))]) [0, 1, 2, 3, 4, 5] rfl
  have hD9 := hD.sub (ws' := [(h0, .inr (7, [.int 10, .int 20, .int 20, .int 20, .null, .ref q_1, .ref q_3, .ref q_5, .ref q_7, .ref q_9, .int 0, .int 0, .int 0, .int 0, .int 0])), (q_1, .inr (1, [.null, .null, .int 0])), (q_3, .inr (1, [.null, .null, .int 0])), (q_5, .inr (1, [.null, .null, .int 0])), (q_7, .inr (1, [.null, .null, .int 0])), (q_9, .inl (cI, 64, .inl (fun _ => 0)))]) [0, 1, 2, 3, 4, 5] (by decide) rfl
  exact W.vret hx hb hr (fun t ht hW => ⟨⟨(), rfl, trivial, ⟨q_1, q_3, q_5, q_7, q_9, by rw [ht]; exact hP9, va_K.moved hW.alike hK, hD9⟩⟩, hS.F ht⟩) hS.2.2 dX7_init_80

set_option maxHeartbeats 4000000 in
set_option maxRecDepth 100000 in
theorem c_CB (l : Launch) (D : va_G) (cI cJ cZ cO : ClassId) (sz : Nat) (h0 : Nat) : Met l yX10_init (wa yX10_init cX10_init 1 none) ({ frames := 3, cells := 7, slots := 91, locals := 60 }) (va_Pc [.ref h0] (pw_s D cI cJ cZ cO sz [(h0, .inr (10, [.null, .null, .int 0]))])) (va_Qv (fun (_ : Unit) => True) (fun (_ : Unit) (t : State) => ∃ (q0 q1 q2 q3 q4 q5 q6 : Nat), pw_t D cI cJ cZ cO (va_A [(h0, .inr (10, [.null, .null, .int 0]))] sz) [(h0, cbC q0 q6 0), (q0, .inr (7, [.int 10, .int 20, .int 20, .int 20, .null, .ref q1, .ref q2, .ref q3, .ref q4, .ref q5, .int 0, .int 0, .int 0, .int 0, .int 0])), (q1, .inr (1, [.null, .null, .int 0])), (q2, .inr (1, [.null, .null, .int 0])), (q3, .inr (1, [.null, .null, .int 0])), (q4, .inr (1, [.null, .null, .int 0])), (q5, .inl (cI, 64, .inl (fun _ => 0))), (q6, .inl (cO, 0, .inr (.inr (.inr (.inr (fun _ => none))))))] t) (va_A [(h0, .inr (10, [.null, .null, .int 0]))] sz)) 7 91 (va_A [(h0, .inr (10, [.null, .null, .int 0]))] sz) := by
  refine Met.ofW (cc := cX10_init) (maxL := 1) (ret := none) (by decide) rfl ?_
  intro p e s m args below meth c s₁ B hml hv
  obtain ⟨rfl, hsz, hP, hK, hD0, hN⟩ := hv
  have hx := B.exec
  have hb := B.bytes
  have hr := B.returns
  have hts := atoms_spec (ws := (wa yX10_init cX10_init 1 none)) B.pre
  have ha : ∀ w ∈ wsL_law, w.before _ s = true := fun w h => hts w (List.mem_cons_of_mem _ h)
  have hown : s.vm.findClass RX10 = some m.cls := findClass_of_methodNamed B.named
  have hlocks := B.notSynchronized
  have hin : meth.name = "<init>" := (name_of_methodNamed B.named B.method).1
  subst hsz
  have hD := hD0.self (sz := s.heap.size)
  generalize hAe : va_A [(h0, .inr (10, [.null, .null, .int 0]))] s.heap.size = A at hD ⊢
  have hA : ∀ q : Nat, s.heap.size ≤ q → A q := fun q h => by rw [← hAe]; exact Or.inr h
  have hS : va_S A s.heap s.heap [] := va_S.rf
  have hP : va_P D vwCl [(h0, .inr (10, [.null, .null, .int 0]))] s.heap := hP
  have hl := lv_entry ([.ref h0]) (n := 1) (Nat.le_of_ble_eq_true rfl)
  rw [lg_entry_eq]
  generalize (lg_sl ([.ref h0]) ++ List.replicate (1 - (lg_sl ([.ref h0])).length) Slot.unset).toArray = ls at hl ⊢
  have hl : lv_has ls 1 [(0, .ref h0)] := hl
  refine lv_aload_n hx hb dX10_init_0 rfl (lv_at hl 0 rfl) ?_
  refine W.objInit hx hb hown (ha _ kl_X10_1) (ha _ km_obj) (ha _ kd_obj) rfl (by rw [hml]; exact hl.1) rfl dX10_init_1 (Nat.le_of_ble_eq_true rfl) (Nat.le_of_ble_eq_true rfl) ?_
  refine W.eq (g2 := F0 m 4 ls []) rfl ?_
  refine lv_aload_n hx hb dX10_init_4 rfl (lv_at hl 0 rfl) ?_
  refine va_new (ci := 7) (fs := [.int 0, .int 0, .int 0, .int 0, .null, .null, .null, .null, .null, .null, .int 0, .int 0, .int 0, .int 0, .int 0]) (C := RX7) (T := TX7) (N := 15) hx hb ha inlX7 tyX7 tyX7_ok hown (ha _ kc_X10_7) (ha _ ki_X7) (ha _ kz_X7) hK hP hD hS hA rfl (by decide) (Nat.le_of_ble_eq_true rfl) (Nat.le_of_ble_eq_true rfl) dX10_init_5 (fun q_1 H hP hD hS => ?_)
  have hP : va_P D vwCl [(h0, .inr (10, [.null, .null, .int 0])), (q_1, .inr (7, [.int 0, .int 0, .int 0, .int 0, .null, .null, .null, .null, .null, .null, .int 0, .int 0, .int 0, .int 0, .int 0]))] H := hP
  have hD : va_D A [(h0, .inr (10, [.null, .null, .int 0])), (q_1, .inr (7, [.int 0, .int 0, .int 0, .int 0, .null, .null, .null, .null, .null, .null, .int 0, .int 0, .int 0, .int 0, .int 0]))] := hD
  refine W.widen (k := 1) (n := 15) (Nat.le_of_ble_eq_true rfl) (Nat.le_of_ble_eq_true rfl) ?_
  refine lv_dup hx hb dX10_init_8 rfl ?_
  have hPc := hP.sub (ws' := [(q_1, .inr (7, [.int 0, .int 0, .int 0, .int 0, .null, .null, .null, .null, .null, .null, .int 0, .int 0, .int 0, .int 0, .int 0]))]) [1] rfl
  have hDc := hD.sub (ws' := [(q_1, .inr (7, [.int 0, .int 0, .int 0, .int 0, .null, .null, .null, .null, .null, .null, .int 0, .int 0, .int 0, .int 0, .int 0]))]) [1] (by decide) rfl
  have hFc := va_free (wc := [(q_1, .inr (7, [.int 0, .int 0, .int 0, .int 0, .null, .null, .null, .null, .null, .null, .int 0, .int 0, .int 0, .int 0, .int 0]))]) hD hS hA [1] rfl
  refine va_callv (va_runIN (As := []) (rest := [.ref q_1, .ref h0]) ⟨hx, hb, hml, hown, ha⟩ (c_Road l D cI cJ cZ cO _ q_1) ⟨va_cnB 0 ha (gaI kd_X7_init) rfl rfl rfl (hN.m RX10 9 yX7_init "CongestionBench" (by decide +kernel)) (ha _ kz_X7) (by decide +kernel) ⟨Nat.le_of_ble_eq_true rfl, Nat.le_of_ble_eq_true rfl⟩, rfl, ha _ km_X7_init⟩ ⟨pw_blind, fun U hU hW => ⟨rfl, pw_start hU hW hPc hK hDc hN⟩⟩ rfl rfl hl.1 rfl (lv_room (Nat.le_of_ble_eq_true rfl)) dX10_init_9 ⟨Nat.le_of_ble_eq_true rfl, Nat.le_of_ble_eq_true rfl⟩) hS (fun q _ h => hFc q h) hFc (fun u t H1 locs ht hvm hw hB hz1 hk1 hS => ?_)
  obtain ⟨q_3, q_4, q_5, q_6, q_7, hP1, hK1, hD1⟩ := hB
  rw [ht] at hP1
  obtain ⟨hP, hD⟩ := va_join (wr := [(h0, .inr (10, [.null, .null, .int 0]))]) (w1 := [(q_1, .inr (7, [.int 10, .int 20, .int 20, .int 20, .null, .ref q_3, .ref q_4, .ref q_5, .ref q_6, .ref q_7, .int 0, .int 0, .int 0, .int 0, .int 0])), (q_3, .inr (1, [.null, .null, .int 0])), (q_4, .inr (1, [.null, .null, .int 0])), (q_5, .inr (1, [.null, .null, .int 0])), (q_6, .inr (1, [.null, .null, .int 0])), (q_7, .inl (cI, 64, .inl (fun _ => 0)))]) hP hD [1] [0] rfl rfl (by decide) (by decide) hk1 hFc hP1 hD1
  generalize H1 = H at hP hS ⊢
  have hP : va_P D vwCl [(h0, .inr (10, [.null, .null, .int 0])), (q_1, .inr (7, [.int 10, .int 20, .int 20, .int 20, .null, .ref q_3, .ref q_4, .ref q_5, .ref q_6, .ref q_7, .int 0, .int 0, .int 0, .int 0, .int 0])), (q_3, .inr (1, [.null, .null, .int 0])), (q_4, .inr (1, [.null, .null, .int 0])), (q_5, .inr (1, [.null, .null, .int 0])), (q_6, .inr (1, [.null, .null, .int 0])), (q_7, .inl (cI, 64, .inl (fun _ => 0)))] H := hP
  have hD : va_D A [(h0, .inr (10, [.null, .null, .int 0])), (q_1, .inr (7, [.int 10, .int 20, .int 20, .int 20, .null, .ref q_3, .ref q_4, .ref q_5, .ref q_6, .ref q_7, .int 0, .int 0, .int 0, .int 0, .int 0])), (q_3, .inr (1, [.null, .null, .int 0])), (q_4, .inr (1, [.null, .null, .int 0])), (q_5, .inr (1, [.null, .null, .int 0])), (q_6, .inr (1, [.null, .null, .int 0])), (q_7, .inl (cI, 64, .inl (fun _ => 0)))] := hD
  refine W.widen (k := 6) (n := 91) (Nat.le_of_ble_eq_true rfl) (Nat.le_of_ble_eq_true rfl) ?_
  refine va_putF (D := D) (ci := 10) (v := .ref q_1) (ty := .object "CongestionBench$Road") (C := RX10) (T := TX10) (N := 3) hx hb ha inlX10 tyX10 tyX10_ok nmX10 hown hK hP hD hS 0 rfl rfl 0 (by decide) (ha _ kf_X10_10) (fun _ h9 => h9) rfl hin rfl (by decide +kernel) rfl rfl (Nat.le_of_ble_eq_true rfl) dX10_init_12 (fun H locs hP hD hS => ?_)
  have hP : va_P D vwCl [(h0, .inr (10, [.ref q_1, .null, .int 0])), (q_1, .inr (7, [.int 10, .int 20, .int 20, .int 20, .null, .ref q_3, .ref q_4, .ref q_5, .ref q_6, .ref q_7, .int 0, .int 0, .int 0, .int 0, .int 0])), (q_3, .inr (1, [.null, .null, .int 0])), (q_4, .inr (1, [.null, .null, .int 0])), (q_5, .inr (1, [.null, .null, .int 0])), (q_6, .inr (1, [.null, .null, .int 0])), (q_7, .inl (cI, 64, .inl (fun _ => 0)))] H := hP
  have hD : va_D A [(h0, .inr (10, [.ref q_1, .null, .int 0])), (q_1, .inr (7, [.int 10, .int 20, .int 20, .int 20, .null, .ref q_3, .ref q_4, .ref q_5, .ref q_6, .ref q_7, .int 0, .int 0, .int 0, .int 0, .int 0])), (q_3, .inr (1, [.null, .null, .int 0])), (q_4, .inr (1, [.null, .null, .int 0])), (q_5, .inr (1, [.null, .null, .int 0])), (q_6, .inr (1, [.null, .null, .int 0])), (q_7, .inl (cI, 64, .inl (fun _ => 0)))] := hD
  refine lv_aload_n hx hb dX10_init_15 rfl (lv_at hl 0 rfl) ?_
  refine lv_iconst (v := 0) hx hb dX10_init_16 (by decide) ?_
  refine va_newq (N' := 0) (C := RX3) hx hb hown (ha _ kc_X10_16) hN.o hK hP hD hS hA (by decide) (by decide +kernel) (Nat.le_of_ble_eq_true rfl) (Nat.le_of_ble_eq_true rfl) (Nat.le_of_ble_eq_true rfl) dX10_init_17 (fun q_8 cA H hK1 hP hD hS => ?_)
  obtain rfl := pw_uq hK1 (i := 3) (j := 4) rfl rfl
  have hP : va_P D vwCl [(h0, .inr (10, [.ref q_1, .null, .int 0])), (q_1, .inr (7, [.int 10, .int 20, .int 20, .int 20, .null, .ref q_3, .ref q_4, .ref q_5, .ref q_6, .ref q_7, .int 0, .int 0, .int 0, .int 0, .int 0])), (q_3, .inr (1, [.null, .null, .int 0])), (q_4, .inr (1, [.null, .null, .int 0])), (q_5, .inr (1, [.null, .null, .int 0])), (q_6, .inr (1, [.null, .null, .int 0])), (q_7, .inl (cI, 64, .inl (fun _ => 0))), (q_8, .inl (cO, 0, .inr (.inr (.inr (.inr (fun _ => none))))))] H := hP
  have hD : va_D A [(h0, .inr (10, [.ref q_1, .null, .int 0])), (q_1, .inr (7, [.int 10, .int 20, .int 20, .int 20, .null, .ref q_3, .ref q_4, .ref q_5, .ref q_6, .ref q_7, .int 0, .int 0, .int 0, .int 0, .int 0])), (q_3, .inr (1, [.null, .null, .int 0])), (q_4, .inr (1, [.null, .null, .int 0])), (q_5, .inr (1, [.null, .null, .int 0])), (q_6, .inr (1, [.null, .null, .int 0])), (q_7, .inl (cI, 64, .inl (fun _ => 0))), (q_8, .inl (cO, 0, .inr (.inr (.inr (.inr (fun _ => none))))))] := hD
  refine W.widen (k := 7) (n := 91) (Nat.le_of_ble_eq_true rfl) (Nat.le_of_ble_eq_true rfl) ?_
  refine va_put (D := D) (ci := 10) (v := .ref q_8) (ty := .array (.object "CongestionBench$Flow")) (C := RX10) (T := TX10) (N := 3) hx hb ha inlX10 tyX10 tyX10_ok nmX10 hown hK hP hD hS 0 rfl rfl 1 (by decide) (ha _ kf_X10_18) (fun _ h9 => h9) rfl (by decide +kernel) rfl rfl (Nat.le_of_ble_eq_true rfl) dX10_init_20 (fun H locs hP hD hS => ?_)
  have hP : va_P D vwCl [(h0, cbC q_1 q_8 0), (q_1, .inr (7, [.int 10, .int 20, .int 20, .int 20, .null, .ref q_3, .ref q_4, .ref q_5, .ref q_6, .ref q_7, .int 0, .int 0, .int 0, .int 0, .int 0])), (q_3, .inr (1, [.null, .null, .int 0])), (q_4, .inr (1, [.null, .null, .int 0])), (q_5, .inr (1, [.null, .null, .int 0])), (q_6, .inr (1, [.null, .null, .int 0])), (q_7, .inl (cI, 64, .inl (fun _ => 0))), (q_8, .inl (cO, 0, .inr (.inr (.inr (.inr (fun _ => none))))))] H := hP
  have hD : va_D A [(h0, cbC q_1 q_8 0), (q_1, .inr (7, [.int 10, .int 20, .int 20, .int 20, .null, .ref q_3, .ref q_4, .ref q_5, .ref q_6, .ref q_7, .int 0, .int 0, .int 0, .int 0, .int 0])), (q_3, .inr (1, [.null, .null, .int 0])), (q_4, .inr (1, [.null, .null, .int 0])), (q_5, .inr (1, [.null, .null, .int 0])), (q_6, .inr (1, [.null, .null, .int 0])), (q_7, .inl (cI, 64, .inl (fun _ => 0))), (q_8, .inl (cO, 0, .inr (.inr (.inr (.inr (fun _ => none))))))] := hD
  have hP9 := hP.sub (ws' := [(h0, cbC q_1 q_8 0), (q_1, .inr (7, [.int 10, .int 20, .int 20, .int 20, .null, .ref q_3, .ref q_4, .ref q_5, .ref q_6, .ref q_7, .int 0, .int 0, .int 0, .int 0, .int 0])), (q_3, .inr (1, [.null, .null, .int 0])), (q_4, .inr (1, [.null, .null, .int 0])), (q_5, .inr (1, [.null, .null, .int 0])), (q_6, .inr (1, [.null, .null, .int 0])), (q_7, .inl (cI, 64, .inl (fun _ => 0))), (q_8, .inl (cO, 0, .inr (.inr (.inr (.inr (fun _ => none))))))]) [0, 1, 2, 3, 4, 5, 6, 7] rfl
  have hD9 := hD.sub (ws' := [(h0, cbC q_1 q_8 0), (q_1, .inr (7, [.int 10, .int 20, .int 20, .int 20, .null, .ref q_3, .ref q_4, .ref q_5, .ref q_6, .ref q_7, .int 0, .int 0, .int 0, .int 0, .int 0])), (q_3, .inr (1, [.null, .null, .int 0])), (q_4, .inr (1, [.null, .null, .int 0])), (q_5, .inr (1, [.null, .null, .int 0])), (q_6, .inr (1, [.null, .null, .int 0])), (q_7, .inl (cI, 64, .inl (fun _ => 0))), (q_8, .inl (cO, 0, .inr (.inr (.inr (.inr (fun _ => none))))))]) [0, 1, 2, 3, 4, 5, 6, 7] (by decide) rfl
  exact W.vret hx hb hr (fun t ht hW => ⟨⟨(), rfl, trivial, ⟨q_1, q_3, q_4, q_5, q_6, q_7, q_8, by rw [ht]; exact hP9, va_K.moved hW.alike hK, hD9⟩⟩, hS.F ht⟩) hS.2.2 dX10_init_23

set_option maxHeartbeats 4000000 in
set_option maxRecDepth 100000 in
theorem s_has (l : Launch) (D : va_G) (cI cJ cZ cO : ClassId) (sz : Nat) (h0 h1 : Nat) (f : Nat → Int64) (n : Int32) : Met l yX4_has (wa yX4_has cX4_has 2 (some .boolean)) ({ frames := 0, cells := 0, slots := 0, locals := 0 }) (va_Pc [.ref h0, .int n] (pw_s D cI cJ cZ cO sz [(h0, .inr (4, [.ref h1])), (h1, .inl (cJ, 4, .inr (.inl f)))])) (va_Qi (fun (r : Int32) (_ : Unit) => r = 0 ∨ r = 1) (fun (_ : Unit) (t : State) => ∃ (f2 : Nat → Int64), pw_t D cI cJ cZ cO (va_A [(h0, .inr (4, [.ref h1])), (h1, .inl (cJ, 4, .inr (.inl f)))] sz) [(h0, .inr (4, [.ref h1])), (h1, .inl (cJ, 4, .inr (.inl f2)))] t) (va_A [(h0, .inr (4, [.ref h1])), (h1, .inl (cJ, 4, .inr (.inl f)))] sz)) 0 0 (va_A [(h0, .inr (4, [.ref h1])), (h1, .inl (cJ, 4, .inr (.inl f)))] sz) := by
  refine Met.ofW (cc := cX4_has) (maxL := 2) (ret := (some .boolean)) (by decide) rfl ?_
  intro p e s m args below meth c s₁ B hml hv
  obtain ⟨rfl, hsz, hP, hK, hD0, hN⟩ := hv
  have hx := B.exec
  have hb := B.bytes
  have hr := B.returns
  have hts := atoms_spec (ws := (wa yX4_has cX4_has 2 (some .boolean))) B.pre
  have ha : ∀ w ∈ wsL_law, w.before _ s = true := fun w h => hts w (List.mem_cons_of_mem _ h)
  have hown : s.vm.findClass RX4 = some m.cls := findClass_of_methodNamed B.named
  have hlocks := B.notSynchronized
  subst hsz
  have hD := hD0.self (sz := s.heap.size)
  generalize hAe : va_A [(h0, .inr (4, [.ref h1])), (h1, .inl (cJ, 4, .inr (.inl f)))] s.heap.size = A at hD ⊢
  have hA : ∀ q : Nat, s.heap.size ≤ q → A q := fun q h => by rw [← hAe]; exact Or.inr h
  have hS : va_S A s.heap s.heap [] := va_S.rf
  have hP : va_P D vwCl [(h0, .inr (4, [.ref h1])), (h1, .inl (cJ, 4, .inr (.inl f)))] s.heap := hP
  have hl := lv_entry ([.ref h0, .int n]) (n := 2) (Nat.le_of_ble_eq_true rfl)
  rw [lg_entry_eq]
  generalize (lg_sl ([.ref h0, .int n]) ++ List.replicate (2 - (lg_sl ([.ref h0, .int n])).length) Slot.unset).toArray = ls at hl ⊢
  have hl : lv_has ls 2 [(0, .ref h0), (1, .int n)] := hl
  -- from the entry
  refine lv_aload_n hx hb dX4_has_0 rfl (lv_at hl 0 rfl) ?_
  refine va_get (D := D) (ci := 4) (v := .ref h1) (C := RX4) (T := TX4) (N := 1) hx hb ha inlX4 hown hK hP 0 rfl rfl 0 (by decide) (ha _ kf_X4_7) (fun _ h9 => h9) rfl dX4_has_1 ?_
  refine lv_iload_n hx hb dX4_has_4 rfl (lv_at hl 1 rfl) ?_
  refine lv_bipush (v := 6) hx hb dX4_has_5 (by decide) ?_
  refine lv_ishr hx hb dX4_has_7 ?_
  refine lv_topi (fun x_9 ex_9 => ?_)
  refine lv_iconst (v := 3) hx hb dX4_has_8 (by decide) ?_
  refine lv_iand hx hb dX4_has_9 ?_
  refine lv_topi (fun x_10 ex_10 => ?_)
  refine va_lald hx hb hK hP 1 1 rfl rfl (by rw [ex_10]; exact sw_ix _) dX4_has_10 ?_
  refine lv_topl (fun y_11 ey_11 => ?_)
  refine lv_iload_n hx hb dX4_has_11 rfl (lv_at hl 1 rfl) ?_
  refine lv_bipush (v := 63) hx hb dX4_has_12 (by decide) ?_
  refine lv_iand hx hb dX4_has_14 ?_
  refine lv_topi (fun x_12 ex_12 => ?_)
  refine lv_lushr hx hb dX4_has_15 rfl ?_
  refine lv_topl (fun y_13 ey_13 => ?_)
  refine lv_lconst (v := 1) hx hb dX4_has_16 (by decide) ?_
  refine lv_land hx hb dX4_has_17 ?_
  refine lv_topl (fun y_14 ey_14 => ?_)
  refine lv_lconst (v := 0) hx hb dX4_has_18 (by decide) ?_
  refine W.lcmp hx hb dX4_has_19 ?_
  refine lv_topi (fun x_15 ex_15 => ?_)
  refine lv_if_eq (tgt := 27) hx hb dX4_has_20 (by decide) (fun c_16 => ?_) (fun c_16 => ?_)
  · refine lv_iconst (v := 0) hx hb dX4_has_27 (by decide) ?_
    have hP9 := hP.sub (ws' := [(h0, .inr (4, [.ref h1])), (h1, .inl (cJ, 4, .inr (.inl f)))]) [0, 1] rfl
    have hD9 := hD.sub (ws' := [(h0, .inr (4, [.ref h1])), (h1, .inl (cJ, 4, .inr (.inl f)))]) [0, 1] (by decide) rfl
    exact W.zret (v := 0) hx hb hr rfl (fun t ht hW => ⟨⟨0, (), rfl, (by decide), ⟨f, by rw [ht]; exact hP9, va_K.moved hW.alike hK, hD9⟩⟩, hS.F ht⟩) hS.2.2 dX4_has_28
  · refine lv_iconst (v := 1) hx hb dX4_has_23 (by decide) ?_
    refine lv_goto (tgt := 28) hx hb dX4_has_24 (by decide) ?_
    have hP9 := hP.sub (ws' := [(h0, .inr (4, [.ref h1])), (h1, .inl (cJ, 4, .inr (.inl f)))]) [0, 1] rfl
    have hD9 := hD.sub (ws' := [(h0, .inr (4, [.ref h1])), (h1, .inl (cJ, 4, .inr (.inl f)))]) [0, 1] (by decide) rfl
    exact W.zret (v := 1) hx hb hr rfl (fun t ht hW => ⟨⟨1, (), rfl, (by decide), ⟨f, by rw [ht]; exact hP9, va_K.moved hW.alike hK, hD9⟩⟩, hS.F ht⟩) hS.2.2 dX4_has_28

set_option maxHeartbeats 4000000 in
set_option maxRecDepth 100000 in
theorem s_put (l : Launch) (D : va_G) (cI cJ cZ cO : ClassId) (sz : Nat) (h0 h1 : Nat) (f : Nat → Int64) (n : Int32) : Met l yX4_put (wa yX4_put cX4_put 2 none) ({ frames := 0, cells := 0, slots := 0, locals := 0 }) (va_Pc [.ref h0, .int n] (pw_s D cI cJ cZ cO sz [(h0, .inr (4, [.ref h1])), (h1, .inl (cJ, 4, .inr (.inl f)))])) (va_Qv (fun (_ : Unit) => True) (fun (_ : Unit) (t : State) => ∃ (f2 : Nat → Int64), pw_t D cI cJ cZ cO (va_A [(h0, .inr (4, [.ref h1])), (h1, .inl (cJ, 4, .inr (.inl f)))] sz) [(h0, .inr (4, [.ref h1])), (h1, .inl (cJ, 4, .inr (.inl f2)))] t) (va_A [(h0, .inr (4, [.ref h1])), (h1, .inl (cJ, 4, .inr (.inl f)))] sz)) 0 0 (va_A [(h0, .inr (4, [.ref h1])), (h1, .inl (cJ, 4, .inr (.inl f)))] sz) := by
  refine Met.ofW (cc := cX4_put) (maxL := 2) (ret := none) (by decide) rfl ?_
  intro p e s m args below meth c s₁ B hml hv
  obtain ⟨rfl, hsz, hP, hK, hD0, hN⟩ := hv
  have hx := B.exec
  have hb := B.bytes
  have hr := B.returns
  have hts := atoms_spec (ws := (wa yX4_put cX4_put 2 none)) B.pre
  have ha : ∀ w ∈ wsL_law, w.before _ s = true := fun w h => hts w (List.mem_cons_of_mem _ h)
  have hown : s.vm.findClass RX4 = some m.cls := findClass_of_methodNamed B.named
  have hlocks := B.notSynchronized
  subst hsz
  have hD := hD0.self (sz := s.heap.size)
  generalize hAe : va_A [(h0, .inr (4, [.ref h1])), (h1, .inl (cJ, 4, .inr (.inl f)))] s.heap.size = A at hD ⊢
  have hA : ∀ q : Nat, s.heap.size ≤ q → A q := fun q h => by rw [← hAe]; exact Or.inr h
  have hS : va_S A s.heap s.heap [] := va_S.rf
  have hP : va_P D vwCl [(h0, .inr (4, [.ref h1])), (h1, .inl (cJ, 4, .inr (.inl f)))] s.heap := hP
  have hl := lv_entry ([.ref h0, .int n]) (n := 2) (Nat.le_of_ble_eq_true rfl)
  rw [lg_entry_eq]
  generalize (lg_sl ([.ref h0, .int n]) ++ List.replicate (2 - (lg_sl ([.ref h0, .int n])).length) Slot.unset).toArray = ls at hl ⊢
  have hl : lv_has ls 2 [(0, .ref h0), (1, .int n)] := hl
  -- from the entry
  refine lv_aload_n hx hb dX4_put_0 rfl (lv_at hl 0 rfl) ?_
  refine va_get (D := D) (ci := 4) (v := .ref h1) (C := RX4) (T := TX4) (N := 1) hx hb ha inlX4 hown hK hP 0 rfl rfl 0 (by decide) (ha _ kf_X4_7) (fun _ h9 => h9) rfl dX4_put_1 ?_
  refine lv_iload_n hx hb dX4_put_4 rfl (lv_at hl 1 rfl) ?_
  refine lv_bipush (v := 6) hx hb dX4_put_5 (by decide) ?_
  refine lv_ishr hx hb dX4_put_7 ?_
  refine lv_topi (fun x_7 ex_7 => ?_)
  refine lv_iconst (v := 3) hx hb dX4_put_8 (by decide) ?_
  refine lv_iand hx hb dX4_put_9 ?_
  refine lv_topi (fun x_8 ex_8 => ?_)
  refine lv_dup2_11 hx hb dX4_put_10 rfl rfl ?_
  refine va_lald hx hb hK hP 1 1 rfl rfl (by rw [ex_8]; exact sw_ix _) dX4_put_11 ?_
  refine lv_topl (fun y_9 ey_9 => ?_)
  refine lv_lconst (v := 1) hx hb dX4_put_12 (by decide) ?_
  refine lv_iload_n hx hb dX4_put_13 rfl (lv_at hl 1 rfl) ?_
  refine lv_bipush (v := 63) hx hb dX4_put_14 (by decide) ?_
  refine lv_iand hx hb dX4_put_16 ?_
  refine lv_topi (fun x_10 ex_10 => ?_)
  refine lv_lshl hx hb dX4_put_17 rfl ?_
  refine lv_topl (fun y_11 ey_11 => ?_)
  refine lv_lor hx hb dX4_put_18 ?_
  refine lv_topl (fun y_12 ey_12 => ?_)
  refine va_last hx hb hK hP hD hS 1 1 rfl rfl (by rw [ex_8]; exact sw_ix _) dX4_put_19 (fun H locs hP hD hS => ?_)
  have hP : va_P D vwCl [(h0, .inr (4, [.ref h1])), (h1, .inl (cJ, 4, .inr (.inl (vp_updL f ((x_8 : Int32).toNatClampNeg) y_12))))] H := hP
  have hD : va_D A [(h0, .inr (4, [.ref h1])), (h1, .inl (cJ, 4, .inr (.inl (vp_updL f ((x_8 : Int32).toNatClampNeg) y_12))))] := hD
  generalize vp_updL f ((x_8 : Int32).toNatClampNeg) y_12 = f at hP hD
  have hP9 := hP.sub (ws' := [(h0, .inr (4, [.ref h1])), (h1, .inl (cJ, 4, .inr (.inl f)))]) [0, 1] rfl
  have hD9 := hD.sub (ws' := [(h0, .inr (4, [.ref h1])), (h1, .inl (cJ, 4, .inr (.inl f)))]) [0, 1] (by decide) rfl
  exact W.vret hx hb hr (fun t ht hW => ⟨⟨(), rfl, trivial, ⟨f, by rw [ht]; exact hP9, va_K.moved hW.alike hK, hD9⟩⟩, hS.F ht⟩) hS.2.2 dX4_put_20

set_option maxHeartbeats 4000000 in
set_option maxRecDepth 100000 in
theorem s_drop (l : Launch) (D : va_G) (cI cJ cZ cO : ClassId) (sz : Nat) (h0 h1 : Nat) (f : Nat → Int64) (n : Int32) : Met l yX4_drop (wa yX4_drop cX4_drop 2 none) ({ frames := 0, cells := 0, slots := 0, locals := 0 }) (va_Pc [.ref h0, .int n] (pw_s D cI cJ cZ cO sz [(h0, .inr (4, [.ref h1])), (h1, .inl (cJ, 4, .inr (.inl f)))])) (va_Qv (fun (_ : Unit) => True) (fun (_ : Unit) (t : State) => ∃ (f2 : Nat → Int64), pw_t D cI cJ cZ cO (va_A [(h0, .inr (4, [.ref h1])), (h1, .inl (cJ, 4, .inr (.inl f)))] sz) [(h0, .inr (4, [.ref h1])), (h1, .inl (cJ, 4, .inr (.inl f2)))] t) (va_A [(h0, .inr (4, [.ref h1])), (h1, .inl (cJ, 4, .inr (.inl f)))] sz)) 0 0 (va_A [(h0, .inr (4, [.ref h1])), (h1, .inl (cJ, 4, .inr (.inl f)))] sz) := by
  refine Met.ofW (cc := cX4_drop) (maxL := 2) (ret := none) (by decide) rfl ?_
  intro p e s m args below meth c s₁ B hml hv
  obtain ⟨rfl, hsz, hP, hK, hD0, hN⟩ := hv
  have hx := B.exec
  have hb := B.bytes
  have hr := B.returns
  have hts := atoms_spec (ws := (wa yX4_drop cX4_drop 2 none)) B.pre
  have ha : ∀ w ∈ wsL_law, w.before _ s = true := fun w h => hts w (List.mem_cons_of_mem _ h)
  have hown : s.vm.findClass RX4 = some m.cls := findClass_of_methodNamed B.named
  have hlocks := B.notSynchronized
  subst hsz
  have hD := hD0.self (sz := s.heap.size)
  generalize hAe : va_A [(h0, .inr (4, [.ref h1])), (h1, .inl (cJ, 4, .inr (.inl f)))] s.heap.size = A at hD ⊢
  have hA : ∀ q : Nat, s.heap.size ≤ q → A q := fun q h => by rw [← hAe]; exact Or.inr h
  have hS : va_S A s.heap s.heap [] := va_S.rf
  have hP : va_P D vwCl [(h0, .inr (4, [.ref h1])), (h1, .inl (cJ, 4, .inr (.inl f)))] s.heap := hP
  have hl := lv_entry ([.ref h0, .int n]) (n := 2) (Nat.le_of_ble_eq_true rfl)
  rw [lg_entry_eq]
  generalize (lg_sl ([.ref h0, .int n]) ++ List.replicate (2 - (lg_sl ([.ref h0, .int n])).length) Slot.unset).toArray = ls at hl ⊢
  have hl : lv_has ls 2 [(0, .ref h0), (1, .int n)] := hl
  -- from the entry
  refine lv_aload_n hx hb dX4_drop_0 rfl (lv_at hl 0 rfl) ?_
  refine va_get (D := D) (ci := 4) (v := .ref h1) (C := RX4) (T := TX4) (N := 1) hx hb ha inlX4 hown hK hP 0 rfl rfl 0 (by decide) (ha _ kf_X4_7) (fun _ h9 => h9) rfl dX4_drop_1 ?_
  refine lv_iload_n hx hb dX4_drop_4 rfl (lv_at hl 1 rfl) ?_
  refine lv_bipush (v := 6) hx hb dX4_drop_5 (by decide) ?_
  refine lv_ishr hx hb dX4_drop_7 ?_
  refine lv_topi (fun x_8 ex_8 => ?_)
  refine lv_iconst (v := 3) hx hb dX4_drop_8 (by decide) ?_
  refine lv_iand hx hb dX4_drop_9 ?_
  refine lv_topi (fun x_9 ex_9 => ?_)
  refine lv_dup2_11 hx hb dX4_drop_10 rfl rfl ?_
  refine va_lald hx hb hK hP 1 1 rfl rfl (by rw [ex_9]; exact sw_ix _) dX4_drop_11 ?_
  refine lv_topl (fun y_10 ey_10 => ?_)
  refine lv_lconst (v := 1) hx hb dX4_drop_12 (by decide) ?_
  refine lv_iload_n hx hb dX4_drop_13 rfl (lv_at hl 1 rfl) ?_
  refine lv_bipush (v := 63) hx hb dX4_drop_14 (by decide) ?_
  refine lv_iand hx hb dX4_drop_16 ?_
  refine lv_topi (fun x_11 ex_11 => ?_)
  refine lv_lshl hx hb dX4_drop_17 rfl ?_
  refine lv_topl (fun y_12 ey_12 => ?_)
  refine lv_ldc2 (v := (-1)) hx hb hown (ha _ kj_X4_13) dX4_drop_18 ?_
  refine lv_lxor hx hb dX4_drop_21 ?_
  refine lv_topl (fun y_13 ey_13 => ?_)
  refine lv_land hx hb dX4_drop_22 ?_
  refine lv_topl (fun y_14 ey_14 => ?_)
  refine va_last hx hb hK hP hD hS 1 1 rfl rfl (by rw [ex_9]; exact sw_ix _) dX4_drop_23 (fun H locs hP hD hS => ?_)
  have hP : va_P D vwCl [(h0, .inr (4, [.ref h1])), (h1, .inl (cJ, 4, .inr (.inl (vp_updL f ((x_9 : Int32).toNatClampNeg) y_14))))] H := hP
  have hD : va_D A [(h0, .inr (4, [.ref h1])), (h1, .inl (cJ, 4, .inr (.inl (vp_updL f ((x_9 : Int32).toNatClampNeg) y_14))))] := hD
  generalize vp_updL f ((x_9 : Int32).toNatClampNeg) y_14 = f at hP hD
  have hP9 := hP.sub (ws' := [(h0, .inr (4, [.ref h1])), (h1, .inl (cJ, 4, .inr (.inl f)))]) [0, 1] rfl
  have hD9 := hD.sub (ws' := [(h0, .inr (4, [.ref h1])), (h1, .inl (cJ, 4, .inr (.inl f)))]) [0, 1] (by decide) rfl
  exact W.vret hx hb hr (fun t ht hW => ⟨⟨(), rfl, trivial, ⟨f, by rw [ht]; exact hP9, va_K.moved hW.alike hK, hD9⟩⟩, hS.F ht⟩) hS.2.2 dX4_drop_24

set_option maxHeartbeats 4000000 in
set_option maxRecDepth 100000 in
theorem s_isEmpty (l : Launch) (D : va_G) (cI cJ cZ cO : ClassId) (sz : Nat) (h0 h1 : Nat) (f : Nat → Int64) : Met l yX4_isEmpty (wa yX4_isEmpty cX4_isEmpty 1 (some .boolean)) ({ frames := 0, cells := 0, slots := 0, locals := 0 }) (va_Pc [.ref h0] (pw_s D cI cJ cZ cO sz [(h0, .inr (4, [.ref h1])), (h1, .inl (cJ, 4, .inr (.inl f)))])) (va_Qi (fun (r : Int32) (_ : Unit) => r = 0 ∨ r = 1) (fun (_ : Unit) (t : State) => ∃ (f2 : Nat → Int64), pw_t D cI cJ cZ cO (va_A [(h0, .inr (4, [.ref h1])), (h1, .inl (cJ, 4, .inr (.inl f)))] sz) [(h0, .inr (4, [.ref h1])), (h1, .inl (cJ, 4, .inr (.inl f2)))] t) (va_A [(h0, .inr (4, [.ref h1])), (h1, .inl (cJ, 4, .inr (.inl f)))] sz)) 0 0 (va_A [(h0, .inr (4, [.ref h1])), (h1, .inl (cJ, 4, .inr (.inl f)))] sz) := by
  refine Met.ofW (cc := cX4_isEmpty) (maxL := 1) (ret := (some .boolean)) (by decide) rfl ?_
  intro p e s m args below meth c s₁ B hml hv
  obtain ⟨rfl, hsz, hP, hK, hD0, hN⟩ := hv
  have hx := B.exec
  have hb := B.bytes
  have hr := B.returns
  have hts := atoms_spec (ws := (wa yX4_isEmpty cX4_isEmpty 1 (some .boolean))) B.pre
  have ha : ∀ w ∈ wsL_law, w.before _ s = true := fun w h => hts w (List.mem_cons_of_mem _ h)
  have hown : s.vm.findClass RX4 = some m.cls := findClass_of_methodNamed B.named
  have hlocks := B.notSynchronized
  subst hsz
  have hD := hD0.self (sz := s.heap.size)
  generalize hAe : va_A [(h0, .inr (4, [.ref h1])), (h1, .inl (cJ, 4, .inr (.inl f)))] s.heap.size = A at hD ⊢
  have hA : ∀ q : Nat, s.heap.size ≤ q → A q := fun q h => by rw [← hAe]; exact Or.inr h
  have hS : va_S A s.heap s.heap [] := va_S.rf
  have hP : va_P D vwCl [(h0, .inr (4, [.ref h1])), (h1, .inl (cJ, 4, .inr (.inl f)))] s.heap := hP
  have hl := lv_entry ([.ref h0]) (n := 1) (Nat.le_of_ble_eq_true rfl)
  rw [lg_entry_eq]
  generalize (lg_sl ([.ref h0]) ++ List.replicate (1 - (lg_sl ([.ref h0])).length) Slot.unset).toArray = ls at hl ⊢
  have hl : lv_has ls 1 [(0, .ref h0)] := hl
  -- from the entry
  refine lv_aload_n hx hb dX4_isEmpty_0 rfl (lv_at hl 0 rfl) ?_
  refine va_get (D := D) (ci := 4) (v := .ref h1) (C := RX4) (T := TX4) (N := 1) hx hb ha inlX4 hown hK hP 0 rfl rfl 0 (by decide) (ha _ kf_X4_7) (fun _ h9 => h9) rfl dX4_isEmpty_1 ?_
  refine lv_iconst (v := 0) hx hb dX4_isEmpty_4 (by decide) ?_
  refine va_lald hx hb hK hP 1 1 rfl rfl (by unfold vp_in; decide) dX4_isEmpty_5 ?_
  refine lv_topl (fun y_10 ey_10 => ?_)
  refine lv_aload_n hx hb dX4_isEmpty_6 rfl (lv_at hl 0 rfl) ?_
  refine va_get (D := D) (ci := 4) (v := .ref h1) (C := RX4) (T := TX4) (N := 1) hx hb ha inlX4 hown hK hP 0 rfl rfl 0 (by decide) (ha _ kf_X4_7) (fun _ h9 => h9) rfl dX4_isEmpty_7 ?_
  refine lv_iconst (v := 1) hx hb dX4_isEmpty_10 (by decide) ?_
  refine va_lald hx hb hK hP 1 1 rfl rfl (by unfold vp_in; decide) dX4_isEmpty_11 ?_
  refine lv_topl (fun y_11 ey_11 => ?_)
  refine lv_lor hx hb dX4_isEmpty_12 ?_
  refine lv_topl (fun y_12 ey_12 => ?_)
  refine lv_aload_n hx hb dX4_isEmpty_13 rfl (lv_at hl 0 rfl) ?_
  refine va_get (D := D) (ci := 4) (v := .ref h1) (C := RX4) (T := TX4) (N := 1) hx hb ha inlX4 hown hK hP 0 rfl rfl 0 (by decide) (ha _ kf_X4_7) (fun _ h9 => h9) rfl dX4_isEmpty_14 ?_
  refine lv_iconst (v := 2) hx hb dX4_isEmpty_17 (by decide) ?_
  refine va_lald hx hb hK hP 1 1 rfl rfl (by unfold vp_in; decide) dX4_isEmpty_18 ?_
  refine lv_topl (fun y_13 ey_13 => ?_)
  refine lv_lor hx hb dX4_isEmpty_19 ?_
  refine lv_topl (fun y_14 ey_14 => ?_)
  refine lv_aload_n hx hb dX4_isEmpty_20 rfl (lv_at hl 0 rfl) ?_
  refine va_get (D := D) (ci := 4) (v := .ref h1) (C := RX4) (T := TX4) (N := 1) hx hb ha inlX4 hown hK hP 0 rfl rfl 0 (by decide) (ha _ kf_X4_7) (fun _ h9 => h9) rfl dX4_isEmpty_21 ?_
  refine lv_iconst (v := 3) hx hb dX4_isEmpty_24 (by decide) ?_
  refine va_lald hx hb hK hP 1 1 rfl rfl (by unfold vp_in; decide) dX4_isEmpty_25 ?_
  refine lv_topl (fun y_15 ey_15 => ?_)
  refine lv_lor hx hb dX4_isEmpty_26 ?_
  refine lv_topl (fun y_16 ey_16 => ?_)
  refine lv_lconst (v := 0) hx hb dX4_isEmpty_27 (by decide) ?_
  refine W.lcmp hx hb dX4_isEmpty_28 ?_
  refine lv_topi (fun x_17 ex_17 => ?_)
  refine lv_if_ne (tgt := 36) hx hb dX4_isEmpty_29 (by decide) (fun c_18 => ?_) (fun c_18 => ?_)
  · refine lv_iconst (v := 0) hx hb dX4_isEmpty_36 (by decide) ?_
    have hP9 := hP.sub (ws' := [(h0, .inr (4, [.ref h1])), (h1, .inl (cJ, 4, .inr (.inl f)))]) [0, 1] rfl
    have hD9 := hD.sub (ws' := [(h0, .inr (4, [.ref h1])), (h1, .inl (cJ, 4, .inr (.inl f)))]) [0, 1] (by decide) rfl
    exact W.zret (v := 0) hx hb hr rfl (fun t ht hW => ⟨⟨0, (), rfl, (by decide), ⟨f, by rw [ht]; exact hP9, va_K.moved hW.alike hK, hD9⟩⟩, hS.F ht⟩) hS.2.2 dX4_isEmpty_37
  · refine lv_iconst (v := 1) hx hb dX4_isEmpty_32 (by decide) ?_
    refine lv_goto (tgt := 37) hx hb dX4_isEmpty_33 (by decide) ?_
    have hP9 := hP.sub (ws' := [(h0, .inr (4, [.ref h1])), (h1, .inl (cJ, 4, .inr (.inl f)))]) [0, 1] rfl
    have hD9 := hD.sub (ws' := [(h0, .inr (4, [.ref h1])), (h1, .inl (cJ, 4, .inr (.inl f)))]) [0, 1] (by decide) rfl
    exact W.zret (v := 1) hx hb hr rfl (fun t ht hW => ⟨⟨1, (), rfl, (by decide), ⟨f, by rw [ht]; exact hP9, va_K.moved hW.alike hK, hD9⟩⟩, hS.F ht⟩) hS.2.2 dX4_isEmpty_37

set_option maxHeartbeats 4000000 in
set_option maxRecDepth 100000 in
theorem s_clear (l : Launch) (D : va_G) (cI cJ cZ cO : ClassId) (sz : Nat) (h0 h1 : Nat) (f : Nat → Int64) : Met l yX4_clear (wa yX4_clear cX4_clear 2 none) ({ frames := 0, cells := 0, slots := 0, locals := 0 }) (va_Pc [.ref h0] (pw_s D cI cJ cZ cO sz [(h0, .inr (4, [.ref h1])), (h1, .inl (cJ, 4, .inr (.inl f)))])) (va_Qv (fun (_ : Unit) => True) (fun (_ : Unit) (t : State) => ∃ (f2 : Nat → Int64), pw_t D cI cJ cZ cO (va_A [(h0, .inr (4, [.ref h1])), (h1, .inl (cJ, 4, .inr (.inl f)))] sz) [(h0, .inr (4, [.ref h1])), (h1, .inl (cJ, 4, .inr (.inl f2)))] t) (va_A [(h0, .inr (4, [.ref h1])), (h1, .inl (cJ, 4, .inr (.inl f)))] sz)) 0 0 (va_A [(h0, .inr (4, [.ref h1])), (h1, .inl (cJ, 4, .inr (.inl f)))] sz) := by
  refine Met.ofW (cc := cX4_clear) (maxL := 2) (ret := none) (by decide) rfl ?_
  intro p e s m args below meth c s₁ B hml hv
  obtain ⟨rfl, hsz, hP, hK, hD0, hN⟩ := hv
  have hx := B.exec
  have hb := B.bytes
  have hr := B.returns
  have hts := atoms_spec (ws := (wa yX4_clear cX4_clear 2 none)) B.pre
  have ha : ∀ w ∈ wsL_law, w.before _ s = true := fun w h => hts w (List.mem_cons_of_mem _ h)
  have hown : s.vm.findClass RX4 = some m.cls := findClass_of_methodNamed B.named
  have hlocks := B.notSynchronized
  subst hsz
  have hD := hD0.self (sz := s.heap.size)
  generalize hAe : va_A [(h0, .inr (4, [.ref h1])), (h1, .inl (cJ, 4, .inr (.inl f)))] s.heap.size = A at hD ⊢
  have hA : ∀ q : Nat, s.heap.size ≤ q → A q := fun q h => by rw [← hAe]; exact Or.inr h
  have hS : va_S A s.heap s.heap [] := va_S.rf
  have hP : va_P D vwCl [(h0, .inr (4, [.ref h1])), (h1, .inl (cJ, 4, .inr (.inl f)))] s.heap := hP
  have hl := lv_entry ([.ref h0]) (n := 2) (Nat.le_of_ble_eq_true rfl)
  rw [lg_entry_eq]
  generalize (lg_sl ([.ref h0]) ++ List.replicate (2 - (lg_sl ([.ref h0])).length) Slot.unset).toArray = ls at hl ⊢
  have hl : lv_has ls 2 [(0, .ref h0)] := hl
  -- from the entry
  refine lv_iconst (v := 0) hx hb dX4_clear_0 (by decide) ?_
  refine lv_istore_n (lv' := [(1, .int 0), (0, .ref h0)]) hx hb dX4_clear_1 rfl hl (by decide) rfl (fun ls hl => ?_)
  refine lv_iload_n hx hb dX4_clear_2 rfl (lv_at hl 0 rfl) ?_
  refine lv_aload_n hx hb dX4_clear_3 rfl (lv_at hl 1 rfl) ?_
  refine va_get (D := D) (ci := 4) (v := .ref h1) (C := RX4) (T := TX4) (N := 1) hx hb ha inlX4 hown hK hP 0 rfl rfl 0 (by decide) (ha _ kf_X4_7) (fun _ h9 => h9) rfl dX4_clear_4 ?_
  refine va_alen hx hb hK hP 1 1 (v := 4) rfl rfl (show Int32.ofNat 4 = 4 by decide) dX4_clear_7 ?_
  refine lv_icmp_ge (tgt := 24) hx hb dX4_clear_8 (by decide) (fun c_10 => ?_) (fun c_10 => ?_)
  · exact absurd c_10 (by decide)
  refine lv_aload_n hx hb dX4_clear_11 rfl (lv_at hl 1 rfl) ?_
  refine va_get (D := D) (ci := 4) (v := .ref h1) (C := RX4) (T := TX4) (N := 1) hx hb ha inlX4 hown hK hP 0 rfl rfl 0 (by decide) (ha _ kf_X4_7) (fun _ h9 => h9) rfl dX4_clear_12 ?_
  refine lv_iload_n hx hb dX4_clear_15 rfl (lv_at hl 0 rfl) ?_
  refine lv_lconst (v := 0) hx hb dX4_clear_16 (by decide) ?_
  refine va_last hx hb hK hP hD hS 1 1 rfl rfl (by unfold vp_in; decide) dX4_clear_17 (fun H locs hP hD hS => ?_)
  have hP : va_P D vwCl [(h0, .inr (4, [.ref h1])), (h1, .inl (cJ, 4, .inr (.inl (vp_updL f ((0 : Int32).toNatClampNeg) 0))))] H := hP
  have hD : va_D A [(h0, .inr (4, [.ref h1])), (h1, .inl (cJ, 4, .inr (.inl (vp_updL f ((0 : Int32).toNatClampNeg) 0))))] := hD
  generalize vp_updL f ((0 : Int32).toNatClampNeg) 0 = f at hP hD
  refine lv_iinc (v := 1) (lv' := [(1, .int 1), (0, .ref h0)]) hx hb dX4_clear_18 hl (k := 0) rfl (by decide) (by decide) rfl (fun ls hl => ?_)
  refine lv_goto (tgt := 2) hx hb dX4_clear_21 (by decide) ?_
  refine lv_iload_n hx hb dX4_clear_2 rfl (lv_at hl 0 rfl) ?_
  refine lv_aload_n hx hb dX4_clear_3 rfl (lv_at hl 1 rfl) ?_
  refine va_get (D := D) (ci := 4) (v := .ref h1) (C := RX4) (T := TX4) (N := 1) hx hb ha inlX4 hown hK hP 0 rfl rfl 0 (by decide) (ha _ kf_X4_7) (fun _ h9 => h9) rfl dX4_clear_4 ?_
  refine va_alen hx hb hK hP 1 1 (v := 4) rfl rfl (show Int32.ofNat 4 = 4 by decide) dX4_clear_7 ?_
  refine lv_icmp_ge (tgt := 24) hx hb dX4_clear_8 (by decide) (fun c_12 => ?_) (fun c_12 => ?_)
  · exact absurd c_12 (by decide)
  refine lv_aload_n hx hb dX4_clear_11 rfl (lv_at hl 1 rfl) ?_
  refine va_get (D := D) (ci := 4) (v := .ref h1) (C := RX4) (T := TX4) (N := 1) hx hb ha inlX4 hown hK hP 0 rfl rfl 0 (by decide) (ha _ kf_X4_7) (fun _ h9 => h9) rfl dX4_clear_12 ?_
  refine lv_iload_n hx hb dX4_clear_15 rfl (lv_at hl 0 rfl) ?_
  refine lv_lconst (v := 0) hx hb dX4_clear_16 (by decide) ?_
  refine va_last hx hb hK hP hD hS 1 1 rfl rfl (by unfold vp_in; decide) dX4_clear_17 (fun H locs hP hD hS => ?_)
  have hP : va_P D vwCl [(h0, .inr (4, [.ref h1])), (h1, .inl (cJ, 4, .inr (.inl (vp_updL f ((1 : Int32).toNatClampNeg) 0))))] H := hP
  have hD : va_D A [(h0, .inr (4, [.ref h1])), (h1, .inl (cJ, 4, .inr (.inl (vp_updL f ((1 : Int32).toNatClampNeg) 0))))] := hD
  generalize vp_updL f ((1 : Int32).toNatClampNeg) 0 = f at hP hD
  refine lv_iinc (v := 2) (lv' := [(1, .int 2), (0, .ref h0)]) hx hb dX4_clear_18 hl (k := 0) rfl (by decide) (by decide) rfl (fun ls hl => ?_)
  refine lv_goto (tgt := 2) hx hb dX4_clear_21 (by decide) ?_
  refine lv_iload_n hx hb dX4_clear_2 rfl (lv_at hl 0 rfl) ?_
  refine lv_aload_n hx hb dX4_clear_3 rfl (lv_at hl 1 rfl) ?_
  refine va_get (D := D) (ci := 4) (v := .ref h1) (C := RX4) (T := TX4) (N := 1) hx hb ha inlX4 hown hK hP 0 rfl rfl 0 (by decide) (ha _ kf_X4_7) (fun _ h9 => h9) rfl dX4_clear_4 ?_
  refine va_alen hx hb hK hP 1 1 (v := 4) rfl rfl (show Int32.ofNat 4 = 4 by decide) dX4_clear_7 ?_
  refine lv_icmp_ge (tgt := 24) hx hb dX4_clear_8 (by decide) (fun c_14 => ?_) (fun c_14 => ?_)
  · exact absurd c_14 (by decide)
  refine lv_aload_n hx hb dX4_clear_11 rfl (lv_at hl 1 rfl) ?_
  refine va_get (D := D) (ci := 4) (v := .ref h1) (C := RX4) (T := TX4) (N := 1) hx hb ha inlX4 hown hK hP 0 rfl rfl 0 (by decide) (ha _ kf_X4_7) (fun _ h9 => h9) rfl dX4_clear_12 ?_
  refine lv_iload_n hx hb dX4_clear_15 rfl (lv_at hl 0 rfl) ?_
  refine lv_lconst (v := 0) hx hb dX4_clear_16 (by decide) ?_
  refine va_last hx hb hK hP hD hS 1 1 rfl rfl (by unfold vp_in; decide) dX4_clear_17 (fun H locs hP hD hS => ?_)
  have hP : va_P D vwCl [(h0, .inr (4, [.ref h1])), (h1, .inl (cJ, 4, .inr (.inl (vp_updL f ((2 : Int32).toNatClampNeg) 0))))] H := hP
  have hD : va_D A [(h0, .inr (4, [.ref h1])), (h1, .inl (cJ, 4, .inr (.inl (vp_updL f ((2 : Int32).toNatClampNeg) 0))))] := hD
  generalize vp_updL f ((2 : Int32).toNatClampNeg) 0 = f at hP hD
  refine lv_iinc (v := 3) (lv' := [(1, .int 3), (0, .ref h0)]) hx hb dX4_clear_18 hl (k := 0) rfl (by decide) (by decide) rfl (fun ls hl => ?_)
  refine lv_goto (tgt := 2) hx hb dX4_clear_21 (by decide) ?_
  refine lv_iload_n hx hb dX4_clear_2 rfl (lv_at hl 0 rfl) ?_
  refine lv_aload_n hx hb dX4_clear_3 rfl (lv_at hl 1 rfl) ?_
  refine va_get (D := D) (ci := 4) (v := .ref h1) (C := RX4) (T := TX4) (N := 1) hx hb ha inlX4 hown hK hP 0 rfl rfl 0 (by decide) (ha _ kf_X4_7) (fun _ h9 => h9) rfl dX4_clear_4 ?_
  refine va_alen hx hb hK hP 1 1 (v := 4) rfl rfl (show Int32.ofNat 4 = 4 by decide) dX4_clear_7 ?_
  refine lv_icmp_ge (tgt := 24) hx hb dX4_clear_8 (by decide) (fun c_16 => ?_) (fun c_16 => ?_)
  · exact absurd c_16 (by decide)
  refine lv_aload_n hx hb dX4_clear_11 rfl (lv_at hl 1 rfl) ?_
  refine va_get (D := D) (ci := 4) (v := .ref h1) (C := RX4) (T := TX4) (N := 1) hx hb ha inlX4 hown hK hP 0 rfl rfl 0 (by decide) (ha _ kf_X4_7) (fun _ h9 => h9) rfl dX4_clear_12 ?_
  refine lv_iload_n hx hb dX4_clear_15 rfl (lv_at hl 0 rfl) ?_
  refine lv_lconst (v := 0) hx hb dX4_clear_16 (by decide) ?_
  refine va_last hx hb hK hP hD hS 1 1 rfl rfl (by unfold vp_in; decide) dX4_clear_17 (fun H locs hP hD hS => ?_)
  have hP : va_P D vwCl [(h0, .inr (4, [.ref h1])), (h1, .inl (cJ, 4, .inr (.inl (vp_updL f ((3 : Int32).toNatClampNeg) 0))))] H := hP
  have hD : va_D A [(h0, .inr (4, [.ref h1])), (h1, .inl (cJ, 4, .inr (.inl (vp_updL f ((3 : Int32).toNatClampNeg) 0))))] := hD
  generalize vp_updL f ((3 : Int32).toNatClampNeg) 0 = f at hP hD
  refine lv_iinc (v := 4) (lv' := [(1, .int 4), (0, .ref h0)]) hx hb dX4_clear_18 hl (k := 0) rfl (by decide) (by decide) rfl (fun ls hl => ?_)
  refine lv_goto (tgt := 2) hx hb dX4_clear_21 (by decide) ?_
  refine lv_iload_n hx hb dX4_clear_2 rfl (lv_at hl 0 rfl) ?_
  refine lv_aload_n hx hb dX4_clear_3 rfl (lv_at hl 1 rfl) ?_
  refine va_get (D := D) (ci := 4) (v := .ref h1) (C := RX4) (T := TX4) (N := 1) hx hb ha inlX4 hown hK hP 0 rfl rfl 0 (by decide) (ha _ kf_X4_7) (fun _ h9 => h9) rfl dX4_clear_4 ?_
  refine va_alen hx hb hK hP 1 1 (v := 4) rfl rfl (show Int32.ofNat 4 = 4 by decide) dX4_clear_7 ?_
  refine lv_icmp_ge (tgt := 24) hx hb dX4_clear_8 (by decide) (fun c_18 => ?_) (fun c_18 => ?_)
  rotate_left
  · exact absurd (by decide) c_18
  have hP9 := hP.sub (ws' := [(h0, .inr (4, [.ref h1])), (h1, .inl (cJ, 4, .inr (.inl f)))]) [0, 1] rfl
  have hD9 := hD.sub (ws' := [(h0, .inr (4, [.ref h1])), (h1, .inl (cJ, 4, .inr (.inl f)))]) [0, 1] (by decide) rfl
  exact W.vret hx hb hr (fun t ht hW => ⟨⟨(), rfl, trivial, ⟨f, by rw [ht]; exact hP9, va_K.moved hW.alike hK, hD9⟩⟩, hS.F ht⟩) hS.2.2 dX4_clear_24

set_option maxHeartbeats 4000000 in
set_option maxRecDepth 100000 in
theorem s_writeTo (l : Launch) (D : va_G) (cI cJ cZ cO : ClassId) (sz : Nat) (h0 h1 h2 : Nat) (f ur : Nat → Int64) : Met l yX4_writeTo (wa yX4_writeTo cX4_writeTo 3 none) ({ frames := 0, cells := 0, slots := 0, locals := 0 }) (va_Pc [.ref h0, .ref h2] (pw_s D cI cJ cZ cO sz [(h0, .inr (4, [.ref h1])), (h1, .inl (cJ, 4, .inr (.inl f))), (h2, .inl (cJ, 4, .inr (.inl ur)))])) (va_Qv (fun (_ : Unit) => True) (fun (_ : Unit) (t : State) => ∃ (f2 ur2 : Nat → Int64), pw_t D cI cJ cZ cO (va_A [(h0, .inr (4, [.ref h1])), (h1, .inl (cJ, 4, .inr (.inl f))), (h2, .inl (cJ, 4, .inr (.inl ur)))] sz) [(h0, .inr (4, [.ref h1])), (h1, .inl (cJ, 4, .inr (.inl f2))), (h2, .inl (cJ, 4, .inr (.inl ur2)))] t) (va_A [(h0, .inr (4, [.ref h1])), (h1, .inl (cJ, 4, .inr (.inl f))), (h2, .inl (cJ, 4, .inr (.inl ur)))] sz)) 0 0 (va_A [(h0, .inr (4, [.ref h1])), (h1, .inl (cJ, 4, .inr (.inl f))), (h2, .inl (cJ, 4, .inr (.inl ur)))] sz) := by
  refine Met.ofW (cc := cX4_writeTo) (maxL := 3) (ret := none) (by decide) rfl ?_
  intro p e s m args below meth c s₁ B hml hv
  obtain ⟨rfl, hsz, hP, hK, hD0, hN⟩ := hv
  have hx := B.exec
  have hb := B.bytes
  have hr := B.returns
  have hts := atoms_spec (ws := (wa yX4_writeTo cX4_writeTo 3 none)) B.pre
  have ha : ∀ w ∈ wsL_law, w.before _ s = true := fun w h => hts w (List.mem_cons_of_mem _ h)
  have hown : s.vm.findClass RX4 = some m.cls := findClass_of_methodNamed B.named
  have hlocks := B.notSynchronized
  subst hsz
  have hD := hD0.self (sz := s.heap.size)
  generalize hAe : va_A [(h0, .inr (4, [.ref h1])), (h1, .inl (cJ, 4, .inr (.inl f))), (h2, .inl (cJ, 4, .inr (.inl ur)))] s.heap.size = A at hD ⊢
  have hA : ∀ q : Nat, s.heap.size ≤ q → A q := fun q h => by rw [← hAe]; exact Or.inr h
  have hS : va_S A s.heap s.heap [] := va_S.rf
  have hP : va_P D vwCl [(h0, .inr (4, [.ref h1])), (h1, .inl (cJ, 4, .inr (.inl f))), (h2, .inl (cJ, 4, .inr (.inl ur)))] s.heap := hP
  have hl := lv_entry ([.ref h0, .ref h2]) (n := 3) (Nat.le_of_ble_eq_true rfl)
  rw [lg_entry_eq]
  generalize (lg_sl ([.ref h0, .ref h2]) ++ List.replicate (3 - (lg_sl ([.ref h0, .ref h2])).length) Slot.unset).toArray = ls at hl ⊢
  have hl : lv_has ls 3 [(0, .ref h0), (1, .ref h2)] := hl
  -- from the entry
  refine lv_iconst (v := 0) hx hb dX4_writeTo_0 (by decide) ?_
  refine lv_istore_n (lv' := [(2, .int 0), (0, .ref h0), (1, .ref h2)]) hx hb dX4_writeTo_1 rfl hl (by decide) rfl (fun ls hl => ?_)
  refine lv_iload_n hx hb dX4_writeTo_2 rfl (lv_at hl 0 rfl) ?_
  refine lv_aload_n hx hb dX4_writeTo_3 rfl (lv_at hl 1 rfl) ?_
  refine va_get (D := D) (ci := 4) (v := .ref h1) (C := RX4) (T := TX4) (N := 1) hx hb ha inlX4 hown hK hP 0 rfl rfl 0 (by decide) (ha _ kf_X4_7) (fun _ h9 => h9) rfl dX4_writeTo_4 ?_
  refine va_alen hx hb hK hP 1 1 (v := 4) rfl rfl (show Int32.ofNat 4 = 4 by decide) dX4_writeTo_7 ?_
  refine lv_icmp_ge (tgt := 32) hx hb dX4_writeTo_8 (by decide) (fun c_18 => ?_) (fun c_18 => ?_)
  · exact absurd c_18 (by decide)
  refine lv_iload_n hx hb dX4_writeTo_11 rfl (lv_at hl 0 rfl) ?_
  refine lv_aload_n hx hb dX4_writeTo_12 rfl (lv_at hl 2 rfl) ?_
  refine va_alen hx hb hK hP 2 1 (v := 4) rfl rfl (show Int32.ofNat 4 = 4 by decide) dX4_writeTo_13 ?_
  refine lv_icmp_ge (tgt := 32) hx hb dX4_writeTo_14 (by decide) (fun c_19 => ?_) (fun c_19 => ?_)
  · exact absurd c_19 (by decide)
  refine lv_aload_n hx hb dX4_writeTo_17 rfl (lv_at hl 2 rfl) ?_
  refine lv_iload_n hx hb dX4_writeTo_18 rfl (lv_at hl 0 rfl) ?_
  refine lv_aload_n hx hb dX4_writeTo_19 rfl (lv_at hl 1 rfl) ?_
  refine va_get (D := D) (ci := 4) (v := .ref h1) (C := RX4) (T := TX4) (N := 1) hx hb ha inlX4 hown hK hP 0 rfl rfl 0 (by decide) (ha _ kf_X4_7) (fun _ h9 => h9) rfl dX4_writeTo_20 ?_
  refine lv_iload_n hx hb dX4_writeTo_23 rfl (lv_at hl 0 rfl) ?_
  refine va_lald hx hb hK hP 1 1 rfl rfl (by unfold vp_in; decide) dX4_writeTo_24 ?_
  refine lv_topl (fun y_20 ey_20 => ?_)
  refine va_last hx hb hK hP hD hS 2 1 rfl rfl (by unfold vp_in; decide) dX4_writeTo_25 (fun H locs hP hD hS => ?_)
  have hP : va_P D vwCl [(h0, .inr (4, [.ref h1])), (h1, .inl (cJ, 4, .inr (.inl f))), (h2, .inl (cJ, 4, .inr (.inl (vp_updL ur ((0 : Int32).toNatClampNeg) y_20))))] H := hP
  have hD : va_D A [(h0, .inr (4, [.ref h1])), (h1, .inl (cJ, 4, .inr (.inl f))), (h2, .inl (cJ, 4, .inr (.inl (vp_updL ur ((0 : Int32).toNatClampNeg) y_20))))] := hD
  generalize vp_updL ur ((0 : Int32).toNatClampNeg) y_20 = ur at hP hD
  refine lv_iinc (v := 1) (lv' := [(2, .int 1), (0, .ref h0), (1, .ref h2)]) hx hb dX4_writeTo_26 hl (k := 0) rfl (by decide) (by decide) rfl (fun ls hl => ?_)
  refine lv_goto (tgt := 2) hx hb dX4_writeTo_29 (by decide) ?_
  refine lv_iload_n hx hb dX4_writeTo_2 rfl (lv_at hl 0 rfl) ?_
  refine lv_aload_n hx hb dX4_writeTo_3 rfl (lv_at hl 1 rfl) ?_
  refine va_get (D := D) (ci := 4) (v := .ref h1) (C := RX4) (T := TX4) (N := 1) hx hb ha inlX4 hown hK hP 0 rfl rfl 0 (by decide) (ha _ kf_X4_7) (fun _ h9 => h9) rfl dX4_writeTo_4 ?_
  refine va_alen hx hb hK hP 1 1 (v := 4) rfl rfl (show Int32.ofNat 4 = 4 by decide) dX4_writeTo_7 ?_
  refine lv_icmp_ge (tgt := 32) hx hb dX4_writeTo_8 (by decide) (fun c_22 => ?_) (fun c_22 => ?_)
  · exact absurd c_22 (by decide)
  refine lv_iload_n hx hb dX4_writeTo_11 rfl (lv_at hl 0 rfl) ?_
  refine lv_aload_n hx hb dX4_writeTo_12 rfl (lv_at hl 2 rfl) ?_
  refine va_alen hx hb hK hP 2 1 (v := 4) rfl rfl (show Int32.ofNat 4 = 4 by decide) dX4_writeTo_13 ?_
  refine lv_icmp_ge (tgt := 32) hx hb dX4_writeTo_14 (by decide) (fun c_23 => ?_) (fun c_23 => ?_)
  · exact absurd c_23 (by decide)
  refine lv_aload_n hx hb dX4_writeTo_17 rfl (lv_at hl 2 rfl) ?_
  refine lv_iload_n hx hb dX4_writeTo_18 rfl (lv_at hl 0 rfl) ?_
  refine lv_aload_n hx hb dX4_writeTo_19 rfl (lv_at hl 1 rfl) ?_
  refine va_get (D := D) (ci := 4) (v := .ref h1) (C := RX4) (T := TX4) (N := 1) hx hb ha inlX4 hown hK hP 0 rfl rfl 0 (by decide) (ha _ kf_X4_7) (fun _ h9 => h9) rfl dX4_writeTo_20 ?_
  refine lv_iload_n hx hb dX4_writeTo_23 rfl (lv_at hl 0 rfl) ?_
  refine va_lald hx hb hK hP 1 1 rfl rfl (by unfold vp_in; decide) dX4_writeTo_24 ?_
  refine lv_topl (fun y_24 ey_24 => ?_)
  refine va_last hx hb hK hP hD hS 2 1 rfl rfl (by unfold vp_in; decide) dX4_writeTo_25 (fun H locs hP hD hS => ?_)
  have hP : va_P D vwCl [(h0, .inr (4, [.ref h1])), (h1, .inl (cJ, 4, .inr (.inl f))), (h2, .inl (cJ, 4, .inr (.inl (vp_updL ur ((1 : Int32).toNatClampNeg) y_24))))] H := hP
  have hD : va_D A [(h0, .inr (4, [.ref h1])), (h1, .inl (cJ, 4, .inr (.inl f))), (h2, .inl (cJ, 4, .inr (.inl (vp_updL ur ((1 : Int32).toNatClampNeg) y_24))))] := hD
  generalize vp_updL ur ((1 : Int32).toNatClampNeg) y_24 = ur at hP hD
  refine lv_iinc (v := 2) (lv' := [(2, .int 2), (0, .ref h0), (1, .ref h2)]) hx hb dX4_writeTo_26 hl (k := 0) rfl (by decide) (by decide) rfl (fun ls hl => ?_)
  refine lv_goto (tgt := 2) hx hb dX4_writeTo_29 (by decide) ?_
  refine lv_iload_n hx hb dX4_writeTo_2 rfl (lv_at hl 0 rfl) ?_
  refine lv_aload_n hx hb dX4_writeTo_3 rfl (lv_at hl 1 rfl) ?_
  refine va_get (D := D) (ci := 4) (v := .ref h1) (C := RX4) (T := TX4) (N := 1) hx hb ha inlX4 hown hK hP 0 rfl rfl 0 (by decide) (ha _ kf_X4_7) (fun _ h9 => h9) rfl dX4_writeTo_4 ?_
  refine va_alen hx hb hK hP 1 1 (v := 4) rfl rfl (show Int32.ofNat 4 = 4 by decide) dX4_writeTo_7 ?_
  refine lv_icmp_ge (tgt := 32) hx hb dX4_writeTo_8 (by decide) (fun c_26 => ?_) (fun c_26 => ?_)
  · exact absurd c_26 (by decide)
  refine lv_iload_n hx hb dX4_writeTo_11 rfl (lv_at hl 0 rfl) ?_
  refine lv_aload_n hx hb dX4_writeTo_12 rfl (lv_at hl 2 rfl) ?_
  refine va_alen hx hb hK hP 2 1 (v := 4) rfl rfl (show Int32.ofNat 4 = 4 by decide) dX4_writeTo_13 ?_
  refine lv_icmp_ge (tgt := 32) hx hb dX4_writeTo_14 (by decide) (fun c_27 => ?_) (fun c_27 => ?_)
  · exact absurd c_27 (by decide)
  refine lv_aload_n hx hb dX4_writeTo_17 rfl (lv_at hl 2 rfl) ?_
  refine lv_iload_n hx hb dX4_writeTo_18 rfl (lv_at hl 0 rfl) ?_
  refine lv_aload_n hx hb dX4_writeTo_19 rfl (lv_at hl 1 rfl) ?_
  refine va_get (D := D) (ci := 4) (v := .ref h1) (C := RX4) (T := TX4) (N := 1) hx hb ha inlX4 hown hK hP 0 rfl rfl 0 (by decide) (ha _ kf_X4_7) (fun _ h9 => h9) rfl dX4_writeTo_20 ?_
  refine lv_iload_n hx hb dX4_writeTo_23 rfl (lv_at hl 0 rfl) ?_
  refine va_lald hx hb hK hP 1 1 rfl rfl (by unfold vp_in; decide) dX4_writeTo_24 ?_
  refine lv_topl (fun y_28 ey_28 => ?_)
  refine va_last hx hb hK hP hD hS 2 1 rfl rfl (by unfold vp_in; decide) dX4_writeTo_25 (fun H locs hP hD hS => ?_)
  have hP : va_P D vwCl [(h0, .inr (4, [.ref h1])), (h1, .inl (cJ, 4, .inr (.inl f))), (h2, .inl (cJ, 4, .inr (.inl (vp_updL ur ((2 : Int32).toNatClampNeg) y_28))))] H := hP
  have hD : va_D A [(h0, .inr (4, [.ref h1])), (h1, .inl (cJ, 4, .inr (.inl f))), (h2, .inl (cJ, 4, .inr (.inl (vp_updL ur ((2 : Int32).toNatClampNeg) y_28))))] := hD
  generalize vp_updL ur ((2 : Int32).toNatClampNeg) y_28 = ur at hP hD
  refine lv_iinc (v := 3) (lv' := [(2, .int 3), (0, .ref h0), (1, .ref h2)]) hx hb dX4_writeTo_26 hl (k := 0) rfl (by decide) (by decide) rfl (fun ls hl => ?_)
  refine lv_goto (tgt := 2) hx hb dX4_writeTo_29 (by decide) ?_
  refine lv_iload_n hx hb dX4_writeTo_2 rfl (lv_at hl 0 rfl) ?_
  refine lv_aload_n hx hb dX4_writeTo_3 rfl (lv_at hl 1 rfl) ?_
  refine va_get (D := D) (ci := 4) (v := .ref h1) (C := RX4) (T := TX4) (N := 1) hx hb ha inlX4 hown hK hP 0 rfl rfl 0 (by decide) (ha _ kf_X4_7) (fun _ h9 => h9) rfl dX4_writeTo_4 ?_
  refine va_alen hx hb hK hP 1 1 (v := 4) rfl rfl (show Int32.ofNat 4 = 4 by decide) dX4_writeTo_7 ?_
  refine lv_icmp_ge (tgt := 32) hx hb dX4_writeTo_8 (by decide) (fun c_30 => ?_) (fun c_30 => ?_)
  · exact absurd c_30 (by decide)
  refine lv_iload_n hx hb dX4_writeTo_11 rfl (lv_at hl 0 rfl) ?_
  refine lv_aload_n hx hb dX4_writeTo_12 rfl (lv_at hl 2 rfl) ?_
  refine va_alen hx hb hK hP 2 1 (v := 4) rfl rfl (show Int32.ofNat 4 = 4 by decide) dX4_writeTo_13 ?_
  refine lv_icmp_ge (tgt := 32) hx hb dX4_writeTo_14 (by decide) (fun c_31 => ?_) (fun c_31 => ?_)
  · exact absurd c_31 (by decide)
  refine lv_aload_n hx hb dX4_writeTo_17 rfl (lv_at hl 2 rfl) ?_
  refine lv_iload_n hx hb dX4_writeTo_18 rfl (lv_at hl 0 rfl) ?_
  refine lv_aload_n hx hb dX4_writeTo_19 rfl (lv_at hl 1 rfl) ?_
  refine va_get (D := D) (ci := 4) (v := .ref h1) (C := RX4) (T := TX4) (N := 1) hx hb ha inlX4 hown hK hP 0 rfl rfl 0 (by decide) (ha _ kf_X4_7) (fun _ h9 => h9) rfl dX4_writeTo_20 ?_
  refine lv_iload_n hx hb dX4_writeTo_23 rfl (lv_at hl 0 rfl) ?_
  refine va_lald hx hb hK hP 1 1 rfl rfl (by unfold vp_in; decide) dX4_writeTo_24 ?_
  refine lv_topl (fun y_32 ey_32 => ?_)
  refine va_last hx hb hK hP hD hS 2 1 rfl rfl (by unfold vp_in; decide) dX4_writeTo_25 (fun H locs hP hD hS => ?_)
  have hP : va_P D vwCl [(h0, .inr (4, [.ref h1])), (h1, .inl (cJ, 4, .inr (.inl f))), (h2, .inl (cJ, 4, .inr (.inl (vp_updL ur ((3 : Int32).toNatClampNeg) y_32))))] H := hP
  have hD : va_D A [(h0, .inr (4, [.ref h1])), (h1, .inl (cJ, 4, .inr (.inl f))), (h2, .inl (cJ, 4, .inr (.inl (vp_updL ur ((3 : Int32).toNatClampNeg) y_32))))] := hD
  generalize vp_updL ur ((3 : Int32).toNatClampNeg) y_32 = ur at hP hD
  refine lv_iinc (v := 4) (lv' := [(2, .int 4), (0, .ref h0), (1, .ref h2)]) hx hb dX4_writeTo_26 hl (k := 0) rfl (by decide) (by decide) rfl (fun ls hl => ?_)
  refine lv_goto (tgt := 2) hx hb dX4_writeTo_29 (by decide) ?_
  refine lv_iload_n hx hb dX4_writeTo_2 rfl (lv_at hl 0 rfl) ?_
  refine lv_aload_n hx hb dX4_writeTo_3 rfl (lv_at hl 1 rfl) ?_
  refine va_get (D := D) (ci := 4) (v := .ref h1) (C := RX4) (T := TX4) (N := 1) hx hb ha inlX4 hown hK hP 0 rfl rfl 0 (by decide) (ha _ kf_X4_7) (fun _ h9 => h9) rfl dX4_writeTo_4 ?_
  refine va_alen hx hb hK hP 1 1 (v := 4) rfl rfl (show Int32.ofNat 4 = 4 by decide) dX4_writeTo_7 ?_
  refine lv_icmp_ge (tgt := 32) hx hb dX4_writeTo_8 (by decide) (fun c_34 => ?_) (fun c_34 => ?_)
  rotate_left
  · exact absurd (by decide) c_34
  have hP9 := hP.sub (ws' := [(h0, .inr (4, [.ref h1])), (h1, .inl (cJ, 4, .inr (.inl f))), (h2, .inl (cJ, 4, .inr (.inl ur)))]) [0, 1, 2] rfl
  have hD9 := hD.sub (ws' := [(h0, .inr (4, [.ref h1])), (h1, .inl (cJ, 4, .inr (.inl f))), (h2, .inl (cJ, 4, .inr (.inl ur)))]) [0, 1, 2] (by decide) rfl
  exact W.vret hx hb hr (fun t ht hW => ⟨⟨(), rfl, trivial, ⟨f, ur, by rw [ht]; exact hP9, va_K.moved hW.alike hK, hD9⟩⟩, hS.F ht⟩) hS.2.2 dX4_writeTo_32

set_option maxHeartbeats 4000000 in
set_option maxRecDepth 100000 in
theorem s_readFrom (l : Launch) (D : va_G) (cI cJ cZ cO : ClassId) (sz : Nat) (h0 h1 h2 : Nat) (f ur : Nat → Int64) : Met l yX4_readFrom (wa yX4_readFrom cX4_readFrom 3 none) ({ frames := 0, cells := 0, slots := 0, locals := 0 }) (va_Pc [.ref h0, .ref h2] (pw_s D cI cJ cZ cO sz [(h0, .inr (4, [.ref h1])), (h1, .inl (cJ, 4, .inr (.inl f))), (h2, .inl (cJ, 4, .inr (.inl ur)))])) (va_Qv (fun (_ : Unit) => True) (fun (_ : Unit) (t : State) => ∃ (f2 ur2 : Nat → Int64), pw_t D cI cJ cZ cO (va_A [(h0, .inr (4, [.ref h1])), (h1, .inl (cJ, 4, .inr (.inl f))), (h2, .inl (cJ, 4, .inr (.inl ur)))] sz) [(h0, .inr (4, [.ref h1])), (h1, .inl (cJ, 4, .inr (.inl f2))), (h2, .inl (cJ, 4, .inr (.inl ur2)))] t) (va_A [(h0, .inr (4, [.ref h1])), (h1, .inl (cJ, 4, .inr (.inl f))), (h2, .inl (cJ, 4, .inr (.inl ur)))] sz)) 0 0 (va_A [(h0, .inr (4, [.ref h1])), (h1, .inl (cJ, 4, .inr (.inl f))), (h2, .inl (cJ, 4, .inr (.inl ur)))] sz) := by
  refine Met.ofW (cc := cX4_readFrom) (maxL := 3) (ret := none) (by decide) rfl ?_
  intro p e s m args below meth c s₁ B hml hv
  obtain ⟨rfl, hsz, hP, hK, hD0, hN⟩ := hv
  have hx := B.exec
  have hb := B.bytes
  have hr := B.returns
  have hts := atoms_spec (ws := (wa yX4_readFrom cX4_readFrom 3 none)) B.pre
  have ha : ∀ w ∈ wsL_law, w.before _ s = true := fun w h => hts w (List.mem_cons_of_mem _ h)
  have hown : s.vm.findClass RX4 = some m.cls := findClass_of_methodNamed B.named
  have hlocks := B.notSynchronized
  subst hsz
  have hD := hD0.self (sz := s.heap.size)
  generalize hAe : va_A [(h0, .inr (4, [.ref h1])), (h1, .inl (cJ, 4, .inr (.inl f))), (h2, .inl (cJ, 4, .inr (.inl ur)))] s.heap.size = A at hD ⊢
  have hA : ∀ q : Nat, s.heap.size ≤ q → A q := fun q h => by rw [← hAe]; exact Or.inr h
  have hS : va_S A s.heap s.heap [] := va_S.rf
  have hP : va_P D vwCl [(h0, .inr (4, [.ref h1])), (h1, .inl (cJ, 4, .inr (.inl f))), (h2, .inl (cJ, 4, .inr (.inl ur)))] s.heap := hP
  have hl := lv_entry ([.ref h0, .ref h2]) (n := 3) (Nat.le_of_ble_eq_true rfl)
  rw [lg_entry_eq]
  generalize (lg_sl ([.ref h0, .ref h2]) ++ List.replicate (3 - (lg_sl ([.ref h0, .ref h2])).length) Slot.unset).toArray = ls at hl ⊢
  have hl : lv_has ls 3 [(0, .ref h0), (1, .ref h2)] := hl
  -- from the entry
  refine lv_iconst (v := 0) hx hb dX4_readFrom_0 (by decide) ?_
  refine lv_istore_n (lv' := [(2, .int 0), (0, .ref h0), (1, .ref h2)]) hx hb dX4_readFrom_1 rfl hl (by decide) rfl (fun ls hl => ?_)
  refine lv_iload_n hx hb dX4_readFrom_2 rfl (lv_at hl 0 rfl) ?_
  refine lv_aload_n hx hb dX4_readFrom_3 rfl (lv_at hl 1 rfl) ?_
  refine va_get (D := D) (ci := 4) (v := .ref h1) (C := RX4) (T := TX4) (N := 1) hx hb ha inlX4 hown hK hP 0 rfl rfl 0 (by decide) (ha _ kf_X4_7) (fun _ h9 => h9) rfl dX4_readFrom_4 ?_
  refine va_alen hx hb hK hP 1 1 (v := 4) rfl rfl (show Int32.ofNat 4 = 4 by decide) dX4_readFrom_7 ?_
  refine lv_icmp_ge (tgt := 32) hx hb dX4_readFrom_8 (by decide) (fun c_18 => ?_) (fun c_18 => ?_)
  · exact absurd c_18 (by decide)
  refine lv_iload_n hx hb dX4_readFrom_11 rfl (lv_at hl 0 rfl) ?_
  refine lv_aload_n hx hb dX4_readFrom_12 rfl (lv_at hl 2 rfl) ?_
  refine va_alen hx hb hK hP 2 1 (v := 4) rfl rfl (show Int32.ofNat 4 = 4 by decide) dX4_readFrom_13 ?_
  refine lv_icmp_ge (tgt := 32) hx hb dX4_readFrom_14 (by decide) (fun c_19 => ?_) (fun c_19 => ?_)
  · exact absurd c_19 (by decide)
  refine lv_aload_n hx hb dX4_readFrom_17 rfl (lv_at hl 1 rfl) ?_
  refine va_get (D := D) (ci := 4) (v := .ref h1) (C := RX4) (T := TX4) (N := 1) hx hb ha inlX4 hown hK hP 0 rfl rfl 0 (by decide) (ha _ kf_X4_7) (fun _ h9 => h9) rfl dX4_readFrom_18 ?_
  refine lv_iload_n hx hb dX4_readFrom_21 rfl (lv_at hl 0 rfl) ?_
  refine lv_aload_n hx hb dX4_readFrom_22 rfl (lv_at hl 2 rfl) ?_
  refine lv_iload_n hx hb dX4_readFrom_23 rfl (lv_at hl 0 rfl) ?_
  refine va_lald hx hb hK hP 2 1 rfl rfl (by unfold vp_in; decide) dX4_readFrom_24 ?_
  refine lv_topl (fun y_20 ey_20 => ?_)
  refine va_last hx hb hK hP hD hS 1 1 rfl rfl (by unfold vp_in; decide) dX4_readFrom_25 (fun H locs hP hD hS => ?_)
  have hP : va_P D vwCl [(h0, .inr (4, [.ref h1])), (h1, .inl (cJ, 4, .inr (.inl (vp_updL f ((0 : Int32).toNatClampNeg) y_20)))), (h2, .inl (cJ, 4, .inr (.inl ur)))] H := hP
  have hD : va_D A [(h0, .inr (4, [.ref h1])), (h1, .inl (cJ, 4, .inr (.inl (vp_updL f ((0 : Int32).toNatClampNeg) y_20)))), (h2, .inl (cJ, 4, .inr (.inl ur)))] := hD
  generalize vp_updL f ((0 : Int32).toNatClampNeg) y_20 = f at hP hD
  refine lv_iinc (v := 1) (lv' := [(2, .int 1), (0, .ref h0), (1, .ref h2)]) hx hb dX4_readFrom_26 hl (k := 0) rfl (by decide) (by decide) rfl (fun ls hl => ?_)
  refine lv_goto (tgt := 2) hx hb dX4_readFrom_29 (by decide) ?_
  refine lv_iload_n hx hb dX4_readFrom_2 rfl (lv_at hl 0 rfl) ?_
  refine lv_aload_n hx hb dX4_readFrom_3 rfl (lv_at hl 1 rfl) ?_
  refine va_get (D := D) (ci := 4) (v := .ref h1) (C := RX4) (T := TX4) (N := 1) hx hb ha inlX4 hown hK hP 0 rfl rfl 0 (by decide) (ha _ kf_X4_7) (fun _ h9 => h9) rfl dX4_readFrom_4 ?_
  refine va_alen hx hb hK hP 1 1 (v := 4) rfl rfl (show Int32.ofNat 4 = 4 by decide) dX4_readFrom_7 ?_
  refine lv_icmp_ge (tgt := 32) hx hb dX4_readFrom_8 (by decide) (fun c_22 => ?_) (fun c_22 => ?_)
  · exact absurd c_22 (by decide)
  refine lv_iload_n hx hb dX4_readFrom_11 rfl (lv_at hl 0 rfl) ?_
  refine lv_aload_n hx hb dX4_readFrom_12 rfl (lv_at hl 2 rfl) ?_
  refine va_alen hx hb hK hP 2 1 (v := 4) rfl rfl (show Int32.ofNat 4 = 4 by decide) dX4_readFrom_13 ?_
  refine lv_icmp_ge (tgt := 32) hx hb dX4_readFrom_14 (by decide) (fun c_23 => ?_) (fun c_23 => ?_)
  · exact absurd c_23 (by decide)
  refine lv_aload_n hx hb dX4_readFrom_17 rfl (lv_at hl 1 rfl) ?_
  refine va_get (D := D) (ci := 4) (v := .ref h1) (C := RX4) (T := TX4) (N := 1) hx hb ha inlX4 hown hK hP 0 rfl rfl 0 (by decide) (ha _ kf_X4_7) (fun _ h9 => h9) rfl dX4_readFrom_18 ?_
  refine lv_iload_n hx hb dX4_readFrom_21 rfl (lv_at hl 0 rfl) ?_
  refine lv_aload_n hx hb dX4_readFrom_22 rfl (lv_at hl 2 rfl) ?_
  refine lv_iload_n hx hb dX4_readFrom_23 rfl (lv_at hl 0 rfl) ?_
  refine va_lald hx hb hK hP 2 1 rfl rfl (by unfold vp_in; decide) dX4_readFrom_24 ?_
  refine lv_topl (fun y_24 ey_24 => ?_)
  refine va_last hx hb hK hP hD hS 1 1 rfl rfl (by unfold vp_in; decide) dX4_readFrom_25 (fun H locs hP hD hS => ?_)
  have hP : va_P D vwCl [(h0, .inr (4, [.ref h1])), (h1, .inl (cJ, 4, .inr (.inl (vp_updL f ((1 : Int32).toNatClampNeg) y_24)))), (h2, .inl (cJ, 4, .inr (.inl ur)))] H := hP
  have hD : va_D A [(h0, .inr (4, [.ref h1])), (h1, .inl (cJ, 4, .inr (.inl (vp_updL f ((1 : Int32).toNatClampNeg) y_24)))), (h2, .inl (cJ, 4, .inr (.inl ur)))] := hD
  generalize vp_updL f ((1 : Int32).toNatClampNeg) y_24 = f at hP hD
  refine lv_iinc (v := 2) (lv' := [(2, .int 2), (0, .ref h0), (1, .ref h2)]) hx hb dX4_readFrom_26 hl (k := 0) rfl (by decide) (by decide) rfl (fun ls hl => ?_)
  refine lv_goto (tgt := 2) hx hb dX4_readFrom_29 (by decide) ?_
  refine lv_iload_n hx hb dX4_readFrom_2 rfl (lv_at hl 0 rfl) ?_
  refine lv_aload_n hx hb dX4_readFrom_3 rfl (lv_at hl 1 rfl) ?_
  refine va_get (D := D) (ci := 4) (v := .ref h1) (C := RX4) (T := TX4) (N := 1) hx hb ha inlX4 hown hK hP 0 rfl rfl 0 (by decide) (ha _ kf_X4_7) (fun _ h9 => h9) rfl dX4_readFrom_4 ?_
  refine va_alen hx hb hK hP 1 1 (v := 4) rfl rfl (show Int32.ofNat 4 = 4 by decide) dX4_readFrom_7 ?_
  refine lv_icmp_ge (tgt := 32) hx hb dX4_readFrom_8 (by decide) (fun c_26 => ?_) (fun c_26 => ?_)
  · exact absurd c_26 (by decide)
  refine lv_iload_n hx hb dX4_readFrom_11 rfl (lv_at hl 0 rfl) ?_
  refine lv_aload_n hx hb dX4_readFrom_12 rfl (lv_at hl 2 rfl) ?_
  refine va_alen hx hb hK hP 2 1 (v := 4) rfl rfl (show Int32.ofNat 4 = 4 by decide) dX4_readFrom_13 ?_
  refine lv_icmp_ge (tgt := 32) hx hb dX4_readFrom_14 (by decide) (fun c_27 => ?_) (fun c_27 => ?_)
  · exact absurd c_27 (by decide)
  refine lv_aload_n hx hb dX4_readFrom_17 rfl (lv_at hl 1 rfl) ?_
  refine va_get (D := D) (ci := 4) (v := .ref h1) (C := RX4) (T := TX4) (N := 1) hx hb ha inlX4 hown hK hP 0 rfl rfl 0 (by decide) (ha _ kf_X4_7) (fun _ h9 => h9) rfl dX4_readFrom_18 ?_
  refine lv_iload_n hx hb dX4_readFrom_21 rfl (lv_at hl 0 rfl) ?_
  refine lv_aload_n hx hb dX4_readFrom_22 rfl (lv_at hl 2 rfl) ?_
  refine lv_iload_n hx hb dX4_readFrom_23 rfl (lv_at hl 0 rfl) ?_
  refine va_lald hx hb hK hP 2 1 rfl rfl (by unfold vp_in; decide) dX4_readFrom_24 ?_
  refine lv_topl (fun y_28 ey_28 => ?_)
  refine va_last hx hb hK hP hD hS 1 1 rfl rfl (by unfold vp_in; decide) dX4_readFrom_25 (fun H locs hP hD hS => ?_)
  have hP : va_P D vwCl [(h0, .inr (4, [.ref h1])), (h1, .inl (cJ, 4, .inr (.inl (vp_updL f ((2 : Int32).toNatClampNeg) y_28)))), (h2, .inl (cJ, 4, .inr (.inl ur)))] H := hP
  have hD : va_D A [(h0, .inr (4, [.ref h1])), (h1, .inl (cJ, 4, .inr (.inl (vp_updL f ((2 : Int32).toNatClampNeg) y_28)))), (h2, .inl (cJ, 4, .inr (.inl ur)))] := hD
  generalize vp_updL f ((2 : Int32).toNatClampNeg) y_28 = f at hP hD
  refine lv_iinc (v := 3) (lv' := [(2, .int 3), (0, .ref h0), (1, .ref h2)]) hx hb dX4_readFrom_26 hl (k := 0) rfl (by decide) (by decide) rfl (fun ls hl => ?_)
  refine lv_goto (tgt := 2) hx hb dX4_readFrom_29 (by decide) ?_
  refine lv_iload_n hx hb dX4_readFrom_2 rfl (lv_at hl 0 rfl) ?_
  refine lv_aload_n hx hb dX4_readFrom_3 rfl (lv_at hl 1 rfl) ?_
  refine va_get (D := D) (ci := 4) (v := .ref h1) (C := RX4) (T := TX4) (N := 1) hx hb ha inlX4 hown hK hP 0 rfl rfl 0 (by decide) (ha _ kf_X4_7) (fun _ h9 => h9) rfl dX4_readFrom_4 ?_
  refine va_alen hx hb hK hP 1 1 (v := 4) rfl rfl (show Int32.ofNat 4 = 4 by decide) dX4_readFrom_7 ?_
  refine lv_icmp_ge (tgt := 32) hx hb dX4_readFrom_8 (by decide) (fun c_30 => ?_) (fun c_30 => ?_)
  · exact absurd c_30 (by decide)
  refine lv_iload_n hx hb dX4_readFrom_11 rfl (lv_at hl 0 rfl) ?_
  refine lv_aload_n hx hb dX4_readFrom_12 rfl (lv_at hl 2 rfl) ?_
  refine va_alen hx hb hK hP 2 1 (v := 4) rfl rfl (show Int32.ofNat 4 = 4 by decide) dX4_readFrom_13 ?_
  refine lv_icmp_ge (tgt := 32) hx hb dX4_readFrom_14 (by decide) (fun c_31 => ?_) (fun c_31 => ?_)
  · exact absurd c_31 (by decide)
  refine lv_aload_n hx hb dX4_readFrom_17 rfl (lv_at hl 1 rfl) ?_
  refine va_get (D := D) (ci := 4) (v := .ref h1) (C := RX4) (T := TX4) (N := 1) hx hb ha inlX4 hown hK hP 0 rfl rfl 0 (by decide) (ha _ kf_X4_7) (fun _ h9 => h9) rfl dX4_readFrom_18 ?_
  refine lv_iload_n hx hb dX4_readFrom_21 rfl (lv_at hl 0 rfl) ?_
  refine lv_aload_n hx hb dX4_readFrom_22 rfl (lv_at hl 2 rfl) ?_
  refine lv_iload_n hx hb dX4_readFrom_23 rfl (lv_at hl 0 rfl) ?_
  refine va_lald hx hb hK hP 2 1 rfl rfl (by unfold vp_in; decide) dX4_readFrom_24 ?_
  refine lv_topl (fun y_32 ey_32 => ?_)
  refine va_last hx hb hK hP hD hS 1 1 rfl rfl (by unfold vp_in; decide) dX4_readFrom_25 (fun H locs hP hD hS => ?_)
  have hP : va_P D vwCl [(h0, .inr (4, [.ref h1])), (h1, .inl (cJ, 4, .inr (.inl (vp_updL f ((3 : Int32).toNatClampNeg) y_32)))), (h2, .inl (cJ, 4, .inr (.inl ur)))] H := hP
  have hD : va_D A [(h0, .inr (4, [.ref h1])), (h1, .inl (cJ, 4, .inr (.inl (vp_updL f ((3 : Int32).toNatClampNeg) y_32)))), (h2, .inl (cJ, 4, .inr (.inl ur)))] := hD
  generalize vp_updL f ((3 : Int32).toNatClampNeg) y_32 = f at hP hD
  refine lv_iinc (v := 4) (lv' := [(2, .int 4), (0, .ref h0), (1, .ref h2)]) hx hb dX4_readFrom_26 hl (k := 0) rfl (by decide) (by decide) rfl (fun ls hl => ?_)
  refine lv_goto (tgt := 2) hx hb dX4_readFrom_29 (by decide) ?_
  refine lv_iload_n hx hb dX4_readFrom_2 rfl (lv_at hl 0 rfl) ?_
  refine lv_aload_n hx hb dX4_readFrom_3 rfl (lv_at hl 1 rfl) ?_
  refine va_get (D := D) (ci := 4) (v := .ref h1) (C := RX4) (T := TX4) (N := 1) hx hb ha inlX4 hown hK hP 0 rfl rfl 0 (by decide) (ha _ kf_X4_7) (fun _ h9 => h9) rfl dX4_readFrom_4 ?_
  refine va_alen hx hb hK hP 1 1 (v := 4) rfl rfl (show Int32.ofNat 4 = 4 by decide) dX4_readFrom_7 ?_
  refine lv_icmp_ge (tgt := 32) hx hb dX4_readFrom_8 (by decide) (fun c_34 => ?_) (fun c_34 => ?_)
  rotate_left
  · exact absurd (by decide) c_34
  have hP9 := hP.sub (ws' := [(h0, .inr (4, [.ref h1])), (h1, .inl (cJ, 4, .inr (.inl f))), (h2, .inl (cJ, 4, .inr (.inl ur)))]) [0, 1, 2] rfl
  have hD9 := hD.sub (ws' := [(h0, .inr (4, [.ref h1])), (h1, .inl (cJ, 4, .inr (.inl f))), (h2, .inl (cJ, 4, .inr (.inl ur)))]) [0, 1, 2] (by decide) rfl
  exact W.vret hx hb hr (fun t ht hW => ⟨⟨(), rfl, trivial, ⟨f, ur, by rw [ht]; exact hP9, va_K.moved hW.alike hK, hD9⟩⟩, hS.F ht⟩) hS.2.2 dX4_readFrom_32

set_option maxHeartbeats 4000000 in
set_option maxRecDepth 100000 in
theorem c_within (l : Launch) (D : va_G) (cI cJ cZ cO : ClassId) (sz : Nat) (n lo hi : Int32) : Met l yX10_within (wa yX10_within cX10_within 3 (some .boolean)) ({ frames := 0, cells := 0, slots := 0, locals := 0 }) (va_Pc [.int n, .int lo, .int hi] (pw_s D cI cJ cZ cO sz [])) (va_Qi (fun (r : Int32) (_ : Unit) => r = wi n lo hi) (fun (_ : Unit) (t : State) => pw_t D cI cJ cZ cO (va_A [] sz) [] t) (va_A [] sz)) 0 0 (va_A [] sz) := by
  refine Met.ofW (cc := cX10_within) (maxL := 3) (ret := (some .boolean)) (by decide) rfl ?_
  intro p e s m args below meth c s₁ B hml hv
  obtain ⟨rfl, hsz, hP, hK, hD0, hN⟩ := hv
  have hx := B.exec
  have hb := B.bytes
  have hr := B.returns
  have hts := atoms_spec (ws := (wa yX10_within cX10_within 3 (some .boolean))) B.pre
  have ha : ∀ w ∈ wsL_law, w.before _ s = true := fun w h => hts w (List.mem_cons_of_mem _ h)
  have hown : s.vm.findClass RX10 = some m.cls := findClass_of_methodNamed B.named
  have hlocks := B.notSynchronized
  subst hsz
  have hD := hD0.self (sz := s.heap.size)
  generalize hAe : va_A [] s.heap.size = A at hD ⊢
  have hA : ∀ q : Nat, s.heap.size ≤ q → A q := fun q h => by rw [← hAe]; exact Or.inr h
  have hS : va_S A s.heap s.heap [] := va_S.rf
  have hP : va_P D vwCl [] s.heap := hP
  have hl := lv_entry ([.int n, .int lo, .int hi]) (n := 3) (Nat.le_of_ble_eq_true rfl)
  rw [lg_entry_eq]
  generalize (lg_sl ([.int n, .int lo, .int hi]) ++ List.replicate (3 - (lg_sl ([.int n, .int lo, .int hi])).length) Slot.unset).toArray = ls at hl ⊢
  have hl : lv_has ls 3 [(0, .int n), (1, .int lo), (2, .int hi)] := hl
  refine lv_iload_n hx hb dX10_within_0 rfl (lv_at hl 0 rfl) ?_
  refine lv_iload_n hx hb dX10_within_1 rfl (lv_at hl 1 rfl) ?_
  refine lv_icmp_lt (tgt := 14) hx hb dX10_within_2 (by decide) (fun c_1 => ?_) (fun c_1 => ?_)
  · refine lv_iconst (v := 0) hx hb dX10_within_14 (by decide) ?_
    exact W.zret (v := 0) hx hb hr rfl (fun t ht hW => ⟨⟨0, (), rfl, by simp [wi, c_1], ⟨pw_P0, va_K.moved hW.alike hK, pw_D0⟩⟩, hS.F ht⟩) hS.2.2 dX10_within_15
  · refine lv_iload_n hx hb dX10_within_5 rfl (lv_at hl 0 rfl) ?_
    refine lv_iload_n hx hb dX10_within_6 rfl (lv_at hl 2 rfl) ?_
    refine lv_icmp_gt (tgt := 14) hx hb dX10_within_7 (by decide) (fun c_2 => ?_) (fun c_2 => ?_)
    · refine lv_iconst (v := 0) hx hb dX10_within_14 (by decide) ?_
      exact W.zret (v := 0) hx hb hr rfl (fun t ht hW => ⟨⟨0, (), rfl, by simp [wi, c_1, c_2], ⟨pw_P0, va_K.moved hW.alike hK, pw_D0⟩⟩, hS.F ht⟩) hS.2.2 dX10_within_15
    · refine lv_iconst (v := 1) hx hb dX10_within_10 (by decide) ?_
      refine lv_goto (tgt := 15) hx hb dX10_within_11 (by decide) ?_
      exact W.zret (v := 1) hx hb hr rfl (fun t ht hW => ⟨⟨1, (), rfl, by simp [wi, c_1, c_2], ⟨pw_P0, va_K.moved hW.alike hK, pw_D0⟩⟩, hS.F ht⟩) hS.2.2 dX10_within_15

set_option maxHeartbeats 4000000 in
set_option maxRecDepth 100000 in
theorem c_in (l : Launch) (D : va_G) (cI cJ cZ cO : ClassId) (sz : Nat) (n lo hi : Int32) : Met l yX11_in (wa yX11_in cX11_in 3 (some .boolean)) ({ frames := 0, cells := 0, slots := 0, locals := 0 }) (va_Pc [.int n, .int lo, .int hi] (pw_s D cI cJ cZ cO sz [])) (va_Qi (fun (r : Int32) (_ : Unit) => r = wi n lo hi) (fun (_ : Unit) (t : State) => pw_t D cI cJ cZ cO (va_A [] sz) [] t) (va_A [] sz)) 0 0 (va_A [] sz) := by
  refine Met.ofW (cc := cX11_in) (maxL := 3) (ret := (some .boolean)) (by decide) rfl ?_
  intro p e s m args below meth c s₁ B hml hv
  obtain ⟨rfl, hsz, hP, hK, hD0, hN⟩ := hv
  have hx := B.exec
  have hb := B.bytes
  have hr := B.returns
  have hts := atoms_spec (ws := (wa yX11_in cX11_in 3 (some .boolean))) B.pre
  have ha : ∀ w ∈ wsL_law, w.before _ s = true := fun w h => hts w (List.mem_cons_of_mem _ h)
  have hown : s.vm.findClass RX11 = some m.cls := findClass_of_methodNamed B.named
  have hlocks := B.notSynchronized
  subst hsz
  have hD := hD0.self (sz := s.heap.size)
  generalize hAe : va_A [] s.heap.size = A at hD ⊢
  have hA : ∀ q : Nat, s.heap.size ≤ q → A q := fun q h => by rw [← hAe]; exact Or.inr h
  have hS : va_S A s.heap s.heap [] := va_S.rf
  have hP : va_P D vwCl [] s.heap := hP
  have hl := lv_entry ([.int n, .int lo, .int hi]) (n := 3) (Nat.le_of_ble_eq_true rfl)
  rw [lg_entry_eq]
  generalize (lg_sl ([.int n, .int lo, .int hi]) ++ List.replicate (3 - (lg_sl ([.int n, .int lo, .int hi])).length) Slot.unset).toArray = ls at hl ⊢
  have hl : lv_has ls 3 [(0, .int n), (1, .int lo), (2, .int hi)] := hl
  refine lv_iload_n hx hb dX11_in_0 rfl (lv_at hl 0 rfl) ?_
  refine lv_iload_n hx hb dX11_in_1 rfl (lv_at hl 1 rfl) ?_
  refine lv_icmp_lt (tgt := 14) hx hb dX11_in_2 (by decide) (fun c_1 => ?_) (fun c_1 => ?_)
  · refine lv_iconst (v := 0) hx hb dX11_in_14 (by decide) ?_
    exact W.zret (v := 0) hx hb hr rfl (fun t ht hW => ⟨⟨0, (), rfl, by simp [wi, c_1], ⟨pw_P0, va_K.moved hW.alike hK, pw_D0⟩⟩, hS.F ht⟩) hS.2.2 dX11_in_15
  · refine lv_iload_n hx hb dX11_in_5 rfl (lv_at hl 0 rfl) ?_
    refine lv_iload_n hx hb dX11_in_6 rfl (lv_at hl 2 rfl) ?_
    refine lv_icmp_gt (tgt := 14) hx hb dX11_in_7 (by decide) (fun c_2 => ?_) (fun c_2 => ?_)
    · refine lv_iconst (v := 0) hx hb dX11_in_14 (by decide) ?_
      exact W.zret (v := 0) hx hb hr rfl (fun t ht hW => ⟨⟨0, (), rfl, by simp [wi, c_1, c_2], ⟨pw_P0, va_K.moved hW.alike hK, pw_D0⟩⟩, hS.F ht⟩) hS.2.2 dX11_in_15
    · refine lv_iconst (v := 1) hx hb dX11_in_10 (by decide) ?_
      refine lv_goto (tgt := 15) hx hb dX11_in_11 (by decide) ?_
      exact W.zret (v := 1) hx hb hr rfl (fun t ht hW => ⟨⟨1, (), rfl, by simp [wi, c_1, c_2], ⟨pw_P0, va_K.moved hW.alike hK, pw_D0⟩⟩, hS.F ht⟩) hS.2.2 dX11_in_15

set_option maxHeartbeats 4000000 in
set_option maxRecDepth 100000 in
theorem c_set (l : Launch) (D : va_G) (cI cJ cZ cO : ClassId) (sz : Nat) (h0 h1 h2 h3 h4 h5 : Nat) (a1 a2 a3 a4 : Int32) : Met l yX7_set (wa yX7_set cX7_set 5 none) ({ frames := 0, cells := 0, slots := 0, locals := 0 }) (va_Pc [.ref h0, .int a1, .int a2, .int a3, .int a4] (pw_s D cI cJ cZ cO sz [(h0, .inr (7, [.int 10, .int 20, .int 20, .int 20, .null, .ref h1, .ref h2, .ref h3, .ref h4, .ref h5, .int 0, .int 0, .int 0, .int 0, .int 0]))])) (va_Qv (fun (_ : Unit) => True) (fun (_ : Unit) (t : State) => pw_t D cI cJ cZ cO (va_A [(h0, .inr (7, [.int 10, .int 20, .int 20, .int 20, .null, .ref h1, .ref h2, .ref h3, .ref h4, .ref h5, .int 0, .int 0, .int 0, .int 0, .int 0]))] sz) [] t) (va_A [(h0, .inr (7, [.int 10, .int 20, .int 20, .int 20, .null, .ref h1, .ref h2, .ref h3, .ref h4, .ref h5, .int 0, .int 0, .int 0, .int 0, .int 0]))] sz)) 0 0 (va_A [(h0, .inr (7, [.int 10, .int 20, .int 20, .int 20, .null, .ref h1, .ref h2, .ref h3, .ref h4, .ref h5, .int 0, .int 0, .int 0, .int 0, .int 0]))] sz) := by
  refine Met.ofW (cc := cX7_set) (maxL := 5) (ret := none) (by decide) rfl ?_
  intro p e s m args below meth c s₁ B hml hv
  obtain ⟨rfl, hsz, hP, hK, hD0, hN⟩ := hv
  have hx := B.exec
  have hb := B.bytes
  have hr := B.returns
  have hts := atoms_spec (ws := (wa yX7_set cX7_set 5 none)) B.pre
  have ha : ∀ w ∈ wsL_law, w.before _ s = true := fun w h => hts w (List.mem_cons_of_mem _ h)
  have hown : s.vm.findClass RX7 = some m.cls := findClass_of_methodNamed B.named
  have hlocks := B.notSynchronized
  subst hsz
  have hD := hD0.self (sz := s.heap.size)
  generalize hAe : va_A [(h0, .inr (7, [.int 10, .int 20, .int 20, .int 20, .null, .ref h1, .ref h2, .ref h3, .ref h4, .ref h5, .int 0, .int 0, .int 0, .int 0, .int 0]))] s.heap.size = A at hD ⊢
  have hA : ∀ q : Nat, s.heap.size ≤ q → A q := fun q h => by rw [← hAe]; exact Or.inr h
  have hS : va_S A s.heap s.heap [] := va_S.rf
  have hP : va_P D vwCl [(h0, .inr (7, [.int 10, .int 20, .int 20, .int 20, .null, .ref h1, .ref h2, .ref h3, .ref h4, .ref h5, .int 0, .int 0, .int 0, .int 0, .int 0]))] s.heap := hP
  have hl := lv_entry ([.ref h0, .int a1, .int a2, .int a3, .int a4]) (n := 5) (Nat.le_of_ble_eq_true rfl)
  rw [lg_entry_eq]
  generalize (lg_sl ([.ref h0, .int a1, .int a2, .int a3, .int a4]) ++ List.replicate (5 - (lg_sl ([.ref h0, .int a1, .int a2, .int a3, .int a4])).length) Slot.unset).toArray = ls at hl ⊢
  have hl : lv_has ls 5 [(0, .ref h0), (1, .int a1), (2, .int a2), (3, .int a3), (4, .int a4)] := hl
  refine lv_aload_n hx hb dX7_set_0 rfl (lv_at hl 0 rfl) ?_
  refine lv_iload_n hx hb dX7_set_1 rfl (lv_at hl 1 rfl) ?_
  refine va_put (D := D) (ci := 7) (v := .int a1) (ty := .int) (C := RX7) (T := TX7) (N := 15) hx hb ha inlX7 tyX7 tyX7_ok nmX7 hown hK hP hD hS 0 rfl rfl 0 (by decide) (ha _ kf_X7_9) (fun _ h9 => h9) rfl (by decide +kernel) rfl rfl (Nat.le_of_ble_eq_true rfl) dX7_set_2 (fun H locs hP hD hS => ?_)
  have hP : va_P D vwCl [(h0, .inr (7, [.int a1, .int 20, .int 20, .int 20, .null, .ref h1, .ref h2, .ref h3, .ref h4, .ref h5, .int 0, .int 0, .int 0, .int 0, .int 0]))] H := hP
  have hD : va_D A [(h0, .inr (7, [.int a1, .int 20, .int 20, .int 20, .null, .ref h1, .ref h2, .ref h3, .ref h4, .ref h5, .int 0, .int 0, .int 0, .int 0, .int 0]))] := hD
  refine lv_aload_n hx hb dX7_set_5 rfl (lv_at hl 0 rfl) ?_
  refine lv_iload_n hx hb dX7_set_6 rfl (lv_at hl 2 rfl) ?_
  refine va_put (D := D) (ci := 7) (v := .int a2) (ty := .int) (C := RX7) (T := TX7) (N := 15) hx hb ha inlX7 tyX7 tyX7_ok nmX7 hown hK hP hD hS 0 rfl rfl 1 (by decide) (ha _ kf_X7_15) (fun _ h9 => h9) rfl (by decide +kernel) rfl rfl (Nat.le_of_ble_eq_true rfl) dX7_set_7 (fun H locs hP hD hS => ?_)
  have hP : va_P D vwCl [(h0, .inr (7, [.int a1, .int a2, .int 20, .int 20, .null, .ref h1, .ref h2, .ref h3, .ref h4, .ref h5, .int 0, .int 0, .int 0, .int 0, .int 0]))] H := hP
  have hD : va_D A [(h0, .inr (7, [.int a1, .int a2, .int 20, .int 20, .null, .ref h1, .ref h2, .ref h3, .ref h4, .ref h5, .int 0, .int 0, .int 0, .int 0, .int 0]))] := hD
  refine lv_aload_n hx hb dX7_set_10 rfl (lv_at hl 0 rfl) ?_
  refine lv_iload_n hx hb dX7_set_11 rfl (lv_at hl 3 rfl) ?_
  refine va_put (D := D) (ci := 7) (v := .int a3) (ty := .int) (C := RX7) (T := TX7) (N := 15) hx hb ha inlX7 tyX7 tyX7_ok nmX7 hown hK hP hD hS 0 rfl rfl 2 (by decide) (ha _ kf_X7_18) (fun _ h9 => h9) rfl (by decide +kernel) rfl rfl (Nat.le_of_ble_eq_true rfl) dX7_set_12 (fun H locs hP hD hS => ?_)
  have hP : va_P D vwCl [(h0, .inr (7, [.int a1, .int a2, .int a3, .int 20, .null, .ref h1, .ref h2, .ref h3, .ref h4, .ref h5, .int 0, .int 0, .int 0, .int 0, .int 0]))] H := hP
  have hD : va_D A [(h0, .inr (7, [.int a1, .int a2, .int a3, .int 20, .null, .ref h1, .ref h2, .ref h3, .ref h4, .ref h5, .int 0, .int 0, .int 0, .int 0, .int 0]))] := hD
  refine lv_aload_n hx hb dX7_set_15 rfl (lv_at hl 0 rfl) ?_
  refine lv_iload hx hb dX7_set_16 (lv_at hl 4 rfl) ?_
  refine va_put (D := D) (ci := 7) (v := .int a4) (ty := .int) (C := RX7) (T := TX7) (N := 15) hx hb ha inlX7 tyX7 tyX7_ok nmX7 hown hK hP hD hS 0 rfl rfl 3 (by decide) (ha _ kf_X7_21) (fun _ h9 => h9) rfl (by decide +kernel) rfl rfl (Nat.le_of_ble_eq_true rfl) dX7_set_18 (fun H locs hP hD hS => ?_)
  have hP : va_P D vwCl [(h0, .inr (7, [.int a1, .int a2, .int a3, .int a4, .null, .ref h1, .ref h2, .ref h3, .ref h4, .ref h5, .int 0, .int 0, .int 0, .int 0, .int 0]))] H := hP
  have hD : va_D A [(h0, .inr (7, [.int a1, .int a2, .int a3, .int a4, .null, .ref h1, .ref h2, .ref h3, .ref h4, .ref h5, .int 0, .int 0, .int 0, .int 0, .int 0]))] := hD
  exact W.vret hx hb hr (fun t ht hW => ⟨⟨(), rfl, trivial, ⟨pw_P0, va_K.moved hW.alike hK, pw_D0⟩⟩, hS.F ht⟩) hS.2.2 dX7_set_21

set_option maxHeartbeats 4000000 in
set_option maxRecDepth 100000 in
theorem c_isFlow (l : Launch) (D : va_G) (cI cJ cZ cO : ClassId) (sz : Nat) (h0 h1 h7 : Nat) (nw_ : Int32) (N : Nat) (g : Nat → Option Nat) (f : Int32) : Met l yX10_isFlow (wa yX10_isFlow cX10_isFlow 2 (some .boolean)) ({ frames := 0, cells := 0, slots := 0, locals := 0 }) (va_Pc [.ref h0, .int f] (pw_s D cI cJ cZ cO sz [(h0, .inr (10, [.ref h1, .ref h7, .int nw_])), (h7, .inl (cO, N, .inr (.inr (.inr (.inr g)))))])) (va_Qi (fun (r : Int32) (_ : Unit) => r = isf f N) (fun (_ : Unit) (t : State) => pw_t D cI cJ cZ cO (va_A [(h0, .inr (10, [.ref h1, .ref h7, .int nw_])), (h7, .inl (cO, N, .inr (.inr (.inr (.inr g)))))] sz) [(h0, .inr (10, [.ref h1, .ref h7, .int nw_])), (h7, .inl (cO, N, .inr (.inr (.inr (.inr g)))))] t) (va_A [(h0, .inr (10, [.ref h1, .ref h7, .int nw_])), (h7, .inl (cO, N, .inr (.inr (.inr (.inr g)))))] sz)) 0 0 (va_A [(h0, .inr (10, [.ref h1, .ref h7, .int nw_])), (h7, .inl (cO, N, .inr (.inr (.inr (.inr g)))))] sz) := by
  refine Met.ofW (cc := cX10_isFlow) (maxL := 2) (ret := (some .boolean)) (by decide) rfl ?_
  intro p e s m args below meth c s₁ B hml hv
  obtain ⟨rfl, hsz, hP, hK, hD0, hN⟩ := hv
  have hx := B.exec
  have hb := B.bytes
  have hr := B.returns
  have hts := atoms_spec (ws := (wa yX10_isFlow cX10_isFlow 2 (some .boolean))) B.pre
  have ha : ∀ w ∈ wsL_law, w.before _ s = true := fun w h => hts w (List.mem_cons_of_mem _ h)
  have hown : s.vm.findClass RX10 = some m.cls := findClass_of_methodNamed B.named
  have hlocks := B.notSynchronized
  subst hsz
  have hD := hD0.self (sz := s.heap.size)
  generalize hAe : va_A [(h0, .inr (10, [.ref h1, .ref h7, .int nw_])), (h7, .inl (cO, N, .inr (.inr (.inr (.inr g)))))] s.heap.size = A at hD ⊢
  have hA : ∀ q : Nat, s.heap.size ≤ q → A q := fun q h => by rw [← hAe]; exact Or.inr h
  have hS : va_S A s.heap s.heap [] := va_S.rf
  have hP : va_P D vwCl [(h0, .inr (10, [.ref h1, .ref h7, .int nw_])), (h7, .inl (cO, N, .inr (.inr (.inr (.inr g)))))] s.heap := hP
  have hl := lv_entry ([.ref h0, .int f]) (n := 2) (Nat.le_of_ble_eq_true rfl)
  rw [lg_entry_eq]
  generalize (lg_sl ([.ref h0, .int f]) ++ List.replicate (2 - (lg_sl ([.ref h0, .int f])).length) Slot.unset).toArray = ls at hl ⊢
  have hl : lv_has ls 2 [(0, .ref h0), (1, .int f)] := hl
  refine lv_iload_n hx hb dX10_isFlow_0 rfl (lv_at hl 1 rfl) ?_
  refine lv_if_lt (tgt := 17) hx hb dX10_isFlow_1 (by decide) (fun c_1 => ?_) (fun c_1 => ?_)
  · refine lv_iconst (v := 0) hx hb dX10_isFlow_17 (by decide) ?_
    have hP9 := hP.sub (ws' := [(h0, .inr (10, [.ref h1, .ref h7, .int nw_])), (h7, .inl (cO, N, .inr (.inr (.inr (.inr g)))))]) [0, 1] rfl
    have hD9 := hD.sub (ws' := [(h0, .inr (10, [.ref h1, .ref h7, .int nw_])), (h7, .inl (cO, N, .inr (.inr (.inr (.inr g)))))]) [0, 1] (by decide) rfl
    exact W.zret (v := 0) hx hb hr rfl (fun t ht hW => ⟨⟨0, (), rfl, by simp [isf, c_1], ⟨by rw [ht]; exact hP9, va_K.moved hW.alike hK, hD9⟩⟩, hS.F ht⟩) hS.2.2 dX10_isFlow_18
  · refine lv_iload_n hx hb dX10_isFlow_4 rfl (lv_at hl 1 rfl) ?_
    refine lv_aload_n hx hb dX10_isFlow_5 rfl (lv_at hl 0 rfl) ?_
    refine va_get (D := D) (ci := 10) (v := .ref h7) (C := RX10) (T := TX10) (N := 3) hx hb ha inlX10 hown hK hP 0 rfl rfl 1 (by decide) (ha _ kf_X10_18) (fun _ h9 => h9) rfl dX10_isFlow_6 ?_
    refine va_alen hx hb hK hP 1 3 (v := nI N) rfl rfl rfl dX10_isFlow_9 ?_
    refine lv_icmp_ge (tgt := 17) hx hb dX10_isFlow_10 (by decide) (fun c_2 => ?_) (fun c_2 => ?_)
    · refine lv_iconst (v := 0) hx hb dX10_isFlow_17 (by decide) ?_
      have hP9 := hP.sub (ws' := [(h0, .inr (10, [.ref h1, .ref h7, .int nw_])), (h7, .inl (cO, N, .inr (.inr (.inr (.inr g)))))]) [0, 1] rfl
      have hD9 := hD.sub (ws' := [(h0, .inr (10, [.ref h1, .ref h7, .int nw_])), (h7, .inl (cO, N, .inr (.inr (.inr (.inr g)))))]) [0, 1] (by decide) rfl
      exact W.zret (v := 0) hx hb hr rfl (fun t ht hW => ⟨⟨0, (), rfl, by simp [isf, c_1, c_2], ⟨by rw [ht]; exact hP9, va_K.moved hW.alike hK, hD9⟩⟩, hS.F ht⟩) hS.2.2 dX10_isFlow_18
    · refine lv_iconst (v := 1) hx hb dX10_isFlow_13 (by decide) ?_
      refine lv_goto (tgt := 18) hx hb dX10_isFlow_14 (by decide) ?_
      have hP9 := hP.sub (ws' := [(h0, .inr (10, [.ref h1, .ref h7, .int nw_])), (h7, .inl (cO, N, .inr (.inr (.inr (.inr g)))))]) [0, 1] rfl
      have hD9 := hD.sub (ws' := [(h0, .inr (10, [.ref h1, .ref h7, .int nw_])), (h7, .inl (cO, N, .inr (.inr (.inr (.inr g)))))]) [0, 1] (by decide) rfl
      exact W.zret (v := 1) hx hb hr rfl (fun t ht hW => ⟨⟨1, (), rfl, by simp [isf, c_1, c_2], ⟨by rw [ht]; exact hP9, va_K.moved hW.alike hK, hD9⟩⟩, hS.F ht⟩) hS.2.2 dX10_isFlow_18

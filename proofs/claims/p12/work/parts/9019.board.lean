set_option maxRecDepth 100000 in
def xc_bforget (bv : Nat → Int32) (f : Nat → Int64) (g : Nat → Int64) : (Nat → Int32) × (Nat → Int64) × (Nat → Int64) := bd (xc_clear f) (fun t1 => bd (t1) (fun f => bd (upd bv 2 (0 : Int32)) (fun bv => (bv, f, g))))
set_option maxHeartbeats 4000000 in
set_option maxRecDepth 100000 in
theorem s_bforget (l : Launch) (D : va_G) (cI cJ cZ cO : ClassId) (sz : Nat) (h0 h1 h2 h3 h4 : Nat) (bv : Nat → Int32) (f g : Nat → Int64) : Met l yX0_forget (wa yX0_forget cX0_forget 1 none) ({ frames := 1, cells := 0, slots := 0, locals := 21 }) (va_Pc [.ref h0] (pw_s D cI cJ cZ cO sz [(h0, boC h1 h3 bv), (h1, mkC h2), (h2, .inl (cJ, 4, .inr (.inl f))), (h3, mkC h4), (h4, .inl (cJ, 4, .inr (.inl g)))])) (va_Qv (fun (_ : Unit) => True) (fun (_ : Unit) (t : State) => ∃ (bv2 : Nat → Int32) (f2 g2 : Nat → Int64), (bv2 = (xc_bforget bv f g).1 ∧ f2 = (xc_bforget bv f g).2.1 ∧ g2 = (xc_bforget bv f g).2.2) ∧ pw_t D cI cJ cZ cO (va_A [(h0, boC h1 h3 bv), (h1, mkC h2), (h2, .inl (cJ, 4, .inr (.inl f))), (h3, mkC h4), (h4, .inl (cJ, 4, .inr (.inl g)))] sz) [(h0, boC h1 h3 bv2), (h1, mkC h2), (h2, .inl (cJ, 4, .inr (.inl f2))), (h3, mkC h4), (h4, .inl (cJ, 4, .inr (.inl g2)))] t) (va_A [(h0, boC h1 h3 bv), (h1, mkC h2), (h2, .inl (cJ, 4, .inr (.inl f))), (h3, mkC h4), (h4, .inl (cJ, 4, .inr (.inl g)))] sz)) 0 0 (va_A [(h0, boC h1 h3 bv), (h1, mkC h2), (h2, .inl (cJ, 4, .inr (.inl f))), (h3, mkC h4), (h4, .inl (cJ, 4, .inr (.inl g)))] sz) := by
  refine Met.ofW (cc := cX0_forget) (maxL := 1) (ret := none) (by decide) rfl ?_
  intro p e s m args below meth c s₁ B hml hv
  obtain ⟨rfl, hsz, hP, hK, hD0, hN⟩ := hv
  have hx := B.exec
  have hb := B.bytes
  have hr := B.returns
  have hts := atoms_spec (ws := (wa yX0_forget cX0_forget 1 none)) B.pre
  have ha : ∀ w ∈ wsL_law, w.before _ s = true := fun w h => hts w (List.mem_cons_of_mem _ h)
  have hown : s.vm.findClass RX0 = some m.cls := findClass_of_methodNamed B.named
  have hlocks := B.notSynchronized
  subst hsz
  have hD := hD0.self (sz := s.heap.size)
  generalize hAe : va_A [(h0, boC h1 h3 bv), (h1, mkC h2), (h2, .inl (cJ, 4, .inr (.inl f))), (h3, mkC h4), (h4, .inl (cJ, 4, .inr (.inl g)))] s.heap.size = A at hD ⊢
  have hA : ∀ q : Nat, s.heap.size ≤ q → A q := fun q h => by rw [← hAe]; exact Or.inr h
  have hS : va_S A s.heap s.heap [] := va_S.rf
  have hP : va_P D vwCl [(h0, boC h1 h3 bv), (h1, mkC h2), (h2, .inl (cJ, 4, .inr (.inl f))), (h3, mkC h4), (h4, .inl (cJ, 4, .inr (.inl g)))] s.heap := hP
  have hl := lv_entry ([.ref h0]) (n := 1) (Nat.le_of_ble_eq_true rfl)
  rw [lg_entry_eq]
  generalize (lg_sl ([.ref h0]) ++ List.replicate (1 - (lg_sl ([.ref h0])).length) Slot.unset).toArray = ls at hl ⊢
  have hl : lv_has ls 1 [(0, .ref h0)] := hl
  obtain ⟨QP, hQP⟩ : ∃ y : State → Prop, y = (MQ below (va_Qv (fun (_ : Unit) => True) (fun (_ : Unit) (t : State) => ∃ (bv2 : Nat → Int32) (f2 g2 : Nat → Int64), (bv2 = (xc_bforget bv f g).1 ∧ f2 = (xc_bforget bv f g).2.1 ∧ g2 = (xc_bforget bv f g).2.2) ∧ pw_t D cI cJ cZ cO A [(h0, boC h1 h3 bv2), (h1, mkC h2), (h2, .inl (cJ, 4, .inr (.inl f2))), (h3, mkC h4), (h4, .inl (cJ, 4, .inr (.inl g2)))] t) A) #[(.ref h0 : Value)] s 0 0 A) := ⟨_, rfl⟩
  obtain ⟨RES, hRES⟩ : ∃ y, y = (xc_bforget bv f g) := ⟨_, rfl⟩
  -- from the entry
  have hE := hRES
  unfold xc_bforget at hE
  refine lv_aload_n hx hb dX0_forget_0 rfl (lv_at hl 0 rfl) ?_
  refine va_get (D := D) (ci := 0) (v := .ref h1) (C := RX0) (T := TX0) (N := 4) hx hb ha inlX0 hown hK hP 0 rfl rfl 0 (by decide) (ha _ kf_X0_12) (fun _ h9 => h9) rfl dX0_forget_1 ?_
  have hPc := hP.sub (ws' := [(h1, mkC h2), (h2, .inl (cJ, 4, .inr (.inl f)))]) [1, 2] rfl
  have hDc := hD.sub (ws' := [(h1, mkC h2), (h2, .inl (cJ, 4, .inr (.inl f)))]) [1, 2] (by decide) rfl
  have hFc := va_free (wc := [(h1, mkC h2), (h2, .inl (cJ, 4, .inr (.inl f)))]) hD hS hA [1, 2] rfl
  refine va_callv (va_runV (As := []) (rest := []) ⟨hx, hb, hml, hown, ha⟩ (s_clear l D cI cJ cZ cO _ h1 h2 f) (cwV 0 ha (gaV kl_X0_40 km_X4_clear ks_X4_clear kz_X4 kd_X4_clear) rfl rfl rfl (by decide +kernel) ⟨Nat.le_of_ble_eq_true rfl, Nat.le_of_ble_eq_true rfl⟩) ⟨pw_blind, va_recv hK hPc (ci := 4) (q0 := 0) rfl rfl, fun U hU hW => ⟨rfl, pw_start hU hW hPc hK hDc hN⟩⟩ rfl rfl hl.1 rfl (lv_room (Nat.le_of_ble_eq_true rfl)) dX0_forget_4 ⟨Nat.le_of_ble_eq_true rfl, Nat.le_of_ble_eq_true rfl⟩) hS (fun q _ h => hFc q h) hFc (fun u t H1 locs ht hvm hw hB hz1 hk1 hS => ?_)
  obtain ⟨f, hX0, hP1, hK1, hD1⟩ := hB
  have hE := bd_at rfl hE
  have hE := bd_at hX0 hE
  rw [ht] at hP1
  obtain ⟨hP, hD⟩ := va_join (wr := [(h0, boC h1 h3 bv), (h3, mkC h4), (h4, .inl (cJ, 4, .inr (.inl g)))]) (w1 := [(h1, mkC h2), (h2, .inl (cJ, 4, .inr (.inl f)))]) hP hD [1, 2] [0, 3, 4] rfl rfl (by decide) (by decide) hk1 hFc hP1 hD1
  generalize H1 = H at hP hS ⊢
  have hP : va_P D vwCl [(h0, boC h1 h3 bv), (h3, mkC h4), (h4, .inl (cJ, 4, .inr (.inl g))), (h1, mkC h2), (h2, .inl (cJ, 4, .inr (.inl f)))] H := hP
  have hD : va_D A [(h0, boC h1 h3 bv), (h3, mkC h4), (h4, .inl (cJ, 4, .inr (.inl g))), (h1, mkC h2), (h2, .inl (cJ, 4, .inr (.inl f)))] := hD
  refine W.widen (k := 0) (n := 0) (Nat.le_of_ble_eq_true rfl) (Nat.le_of_ble_eq_true rfl) ?_
  refine lv_aload_n hx hb dX0_forget_7 rfl (lv_at hl 0 rfl) ?_
  refine lv_iconst (v := 0) hx hb dX0_forget_8 (by decide) ?_
  refine va_put (D := D) (ci := 0) (v := .int 0) (ty := .int) (C := RX0) (T := TX0) (N := 4) hx hb ha inlX0 tyX0 tyX0_ok nmX0 hown hK hP hD hS 0 rfl rfl 2 (by decide) (ha _ kf_X0_29) (fun _ h9 => h9) rfl (by decide +kernel) rfl rfl (Nat.le_of_ble_eq_true rfl) dX0_forget_9 (fun H locs hP hD hS => ?_)
  have hP : va_P D vwCl [(h0, boC h1 h3 (upd bv 2 0)), (h3, mkC h4), (h4, .inl (cJ, 4, .inr (.inl g))), (h1, mkC h2), (h2, .inl (cJ, 4, .inr (.inl f)))] H := hP
  have hD : va_D A [(h0, boC h1 h3 (upd bv 2 0)), (h3, mkC h4), (h4, .inl (cJ, 4, .inr (.inl g))), (h1, mkC h2), (h2, .inl (cJ, 4, .inr (.inl f)))] := hD
  generalize hg_6 : upd bv 2 0 = bv at hP hD
  have hE := bs_at hg_6 hE
  have hP9 := hP.sub (ws' := [(h0, boC h1 h3 bv), (h1, mkC h2), (h2, .inl (cJ, 4, .inr (.inl f))), (h3, mkC h4), (h4, .inl (cJ, 4, .inr (.inl g)))]) [0, 3, 4, 1, 2] rfl
  have hD9 := hD.sub (ws' := [(h0, boC h1 h3 bv), (h1, mkC h2), (h2, .inl (cJ, 4, .inr (.inl f))), (h3, mkC h4), (h4, .inl (cJ, 4, .inr (.inl g)))]) [0, 3, 4, 1, 2] (by decide) rfl
  exact W.vret hx hb hr (fun t ht hW => ⟨⟨(), rfl, trivial, ⟨bv, f, g, ⟨(by rw [← hRES, hE]), (by rw [← hRES, hE]), (by rw [← hRES, hE])⟩, by rw [ht]; exact hP9, va_K.moved hW.alike hK, hD9⟩⟩, hS.F ht⟩) hS.2.2 dX0_forget_12

set_option maxRecDepth 100000 in
def xc_bbegin (bv : Nat → Int32) (f : Nat → Int64) (g : Nat → Int64) (n1 : Int32) : (Nat → Int32) × (Nat → Int64) × (Nat → Int64) := bd (xc_clear g) (fun t1 => bd (t1) (fun g => bd (upd bv 3 n1) (fun bv => (bv, f, g))))
set_option maxHeartbeats 4000000 in
set_option maxRecDepth 100000 in
theorem s_bbegin (l : Launch) (D : va_G) (cI cJ cZ cO : ClassId) (sz : Nat) (h0 h1 h2 h3 h4 : Nat) (bv : Nat → Int32) (f g : Nat → Int64) (n1 : Int32) : Met l yX0_beginRecovery (wa yX0_beginRecovery cX0_beginRecovery 2 none) ({ frames := 1, cells := 0, slots := 0, locals := 21 }) (va_Pc [.ref h0, .int n1] (pw_s D cI cJ cZ cO sz [(h0, boC h1 h3 bv), (h1, mkC h2), (h2, .inl (cJ, 4, .inr (.inl f))), (h3, mkC h4), (h4, .inl (cJ, 4, .inr (.inl g)))])) (va_Qv (fun (_ : Unit) => True) (fun (_ : Unit) (t : State) => ∃ (bv2 : Nat → Int32) (f2 g2 : Nat → Int64), (bv2 = (xc_bbegin bv f g n1).1 ∧ f2 = (xc_bbegin bv f g n1).2.1 ∧ g2 = (xc_bbegin bv f g n1).2.2) ∧ pw_t D cI cJ cZ cO (va_A [(h0, boC h1 h3 bv), (h1, mkC h2), (h2, .inl (cJ, 4, .inr (.inl f))), (h3, mkC h4), (h4, .inl (cJ, 4, .inr (.inl g)))] sz) [(h0, boC h1 h3 bv2), (h1, mkC h2), (h2, .inl (cJ, 4, .inr (.inl f2))), (h3, mkC h4), (h4, .inl (cJ, 4, .inr (.inl g2)))] t) (va_A [(h0, boC h1 h3 bv), (h1, mkC h2), (h2, .inl (cJ, 4, .inr (.inl f))), (h3, mkC h4), (h4, .inl (cJ, 4, .inr (.inl g)))] sz)) 0 0 (va_A [(h0, boC h1 h3 bv), (h1, mkC h2), (h2, .inl (cJ, 4, .inr (.inl f))), (h3, mkC h4), (h4, .inl (cJ, 4, .inr (.inl g)))] sz) := by
  refine Met.ofW (cc := cX0_beginRecovery) (maxL := 2) (ret := none) (by decide) rfl ?_
  intro p e s m args below meth c s₁ B hml hv
  obtain ⟨rfl, hsz, hP, hK, hD0, hN⟩ := hv
  have hx := B.exec
  have hb := B.bytes
  have hr := B.returns
  have hts := atoms_spec (ws := (wa yX0_beginRecovery cX0_beginRecovery 2 none)) B.pre
  have ha : ∀ w ∈ wsL_law, w.before _ s = true := fun w h => hts w (List.mem_cons_of_mem _ h)
  have hown : s.vm.findClass RX0 = some m.cls := findClass_of_methodNamed B.named
  have hlocks := B.notSynchronized
  subst hsz
  have hD := hD0.self (sz := s.heap.size)
  generalize hAe : va_A [(h0, boC h1 h3 bv), (h1, mkC h2), (h2, .inl (cJ, 4, .inr (.inl f))), (h3, mkC h4), (h4, .inl (cJ, 4, .inr (.inl g)))] s.heap.size = A at hD ⊢
  have hA : ∀ q : Nat, s.heap.size ≤ q → A q := fun q h => by rw [← hAe]; exact Or.inr h
  have hS : va_S A s.heap s.heap [] := va_S.rf
  have hP : va_P D vwCl [(h0, boC h1 h3 bv), (h1, mkC h2), (h2, .inl (cJ, 4, .inr (.inl f))), (h3, mkC h4), (h4, .inl (cJ, 4, .inr (.inl g)))] s.heap := hP
  have hl := lv_entry ([.ref h0, .int n1]) (n := 2) (Nat.le_of_ble_eq_true rfl)
  rw [lg_entry_eq]
  generalize (lg_sl ([.ref h0, .int n1]) ++ List.replicate (2 - (lg_sl ([.ref h0, .int n1])).length) Slot.unset).toArray = ls at hl ⊢
  have hl : lv_has ls 2 [(0, .ref h0), (1, .int n1)] := hl
  obtain ⟨QP, hQP⟩ : ∃ y : State → Prop, y = (MQ below (va_Qv (fun (_ : Unit) => True) (fun (_ : Unit) (t : State) => ∃ (bv2 : Nat → Int32) (f2 g2 : Nat → Int64), (bv2 = (xc_bbegin bv f g n1).1 ∧ f2 = (xc_bbegin bv f g n1).2.1 ∧ g2 = (xc_bbegin bv f g n1).2.2) ∧ pw_t D cI cJ cZ cO A [(h0, boC h1 h3 bv2), (h1, mkC h2), (h2, .inl (cJ, 4, .inr (.inl f2))), (h3, mkC h4), (h4, .inl (cJ, 4, .inr (.inl g2)))] t) A) #[(.ref h0 : Value), (.int n1 : Value)] s 0 0 A) := ⟨_, rfl⟩
  obtain ⟨RES, hRES⟩ : ∃ y, y = (xc_bbegin bv f g n1) := ⟨_, rfl⟩
  -- from the entry
  have hE := hRES
  unfold xc_bbegin at hE
  refine lv_aload_n hx hb dX0_beginRecovery_0 rfl (lv_at hl 0 rfl) ?_
  refine va_get (D := D) (ci := 0) (v := .ref h3) (C := RX0) (T := TX0) (N := 4) hx hb ha inlX0 hown hK hP 0 rfl rfl 1 (by decide) (ha _ kf_X0_18) (fun _ h9 => h9) rfl dX0_beginRecovery_1 ?_
  have hPc := hP.sub (ws' := [(h3, mkC h4), (h4, .inl (cJ, 4, .inr (.inl g)))]) [3, 4] rfl
  have hDc := hD.sub (ws' := [(h3, mkC h4), (h4, .inl (cJ, 4, .inr (.inl g)))]) [3, 4] (by decide) rfl
  have hFc := va_free (wc := [(h3, mkC h4), (h4, .inl (cJ, 4, .inr (.inl g)))]) hD hS hA [3, 4] rfl
  refine va_callv (va_runV (As := []) (rest := []) ⟨hx, hb, hml, hown, ha⟩ (s_clear l D cI cJ cZ cO _ h3 h4 g) (cwV 0 ha (gaV kl_X0_40 km_X4_clear ks_X4_clear kz_X4 kd_X4_clear) rfl rfl rfl (by decide +kernel) ⟨Nat.le_of_ble_eq_true rfl, Nat.le_of_ble_eq_true rfl⟩) ⟨pw_blind, va_recv hK hPc (ci := 4) (q0 := 0) rfl rfl, fun U hU hW => ⟨rfl, pw_start hU hW hPc hK hDc hN⟩⟩ rfl rfl hl.1 rfl (lv_room (Nat.le_of_ble_eq_true rfl)) dX0_beginRecovery_4 ⟨Nat.le_of_ble_eq_true rfl, Nat.le_of_ble_eq_true rfl⟩) hS (fun q _ h => hFc q h) hFc (fun u t H1 locs ht hvm hw hB hz1 hk1 hS => ?_)
  obtain ⟨g, hX0, hP1, hK1, hD1⟩ := hB
  have hE := bd_at rfl hE
  have hE := bd_at hX0 hE
  rw [ht] at hP1
  obtain ⟨hP, hD⟩ := va_join (wr := [(h0, boC h1 h3 bv), (h1, mkC h2), (h2, .inl (cJ, 4, .inr (.inl f)))]) (w1 := [(h3, mkC h4), (h4, .inl (cJ, 4, .inr (.inl g)))]) hP hD [3, 4] [0, 1, 2] rfl rfl (by decide) (by decide) hk1 hFc hP1 hD1
  generalize H1 = H at hP hS ⊢
  have hP : va_P D vwCl [(h0, boC h1 h3 bv), (h1, mkC h2), (h2, .inl (cJ, 4, .inr (.inl f))), (h3, mkC h4), (h4, .inl (cJ, 4, .inr (.inl g)))] H := hP
  have hD : va_D A [(h0, boC h1 h3 bv), (h1, mkC h2), (h2, .inl (cJ, 4, .inr (.inl f))), (h3, mkC h4), (h4, .inl (cJ, 4, .inr (.inl g)))] := hD
  refine W.widen (k := 0) (n := 0) (Nat.le_of_ble_eq_true rfl) (Nat.le_of_ble_eq_true rfl) ?_
  refine lv_aload_n hx hb dX0_beginRecovery_7 rfl (lv_at hl 0 rfl) ?_
  refine lv_iload_n hx hb dX0_beginRecovery_8 rfl (lv_at hl 1 rfl) ?_
  refine va_put (D := D) (ci := 0) (v := .int n1) (ty := .int) (C := RX0) (T := TX0) (N := 4) hx hb ha inlX0 tyX0 tyX0_ok nmX0 hown hK hP hD hS 0 rfl rfl 3 (by decide) (ha _ kf_X0_21) (fun _ h9 => h9) rfl (by decide +kernel) rfl rfl (Nat.le_of_ble_eq_true rfl) dX0_beginRecovery_9 (fun H locs hP hD hS => ?_)
  have hP : va_P D vwCl [(h0, boC h1 h3 (upd bv 3 n1)), (h1, mkC h2), (h2, .inl (cJ, 4, .inr (.inl f))), (h3, mkC h4), (h4, .inl (cJ, 4, .inr (.inl g)))] H := hP
  have hD : va_D A [(h0, boC h1 h3 (upd bv 3 n1)), (h1, mkC h2), (h2, .inl (cJ, 4, .inr (.inl f))), (h3, mkC h4), (h4, .inl (cJ, 4, .inr (.inl g)))] := hD
  generalize hg_6 : upd bv 3 n1 = bv at hP hD
  have hE := bs_at hg_6 hE
  have hP9 := hP.sub (ws' := [(h0, boC h1 h3 bv), (h1, mkC h2), (h2, .inl (cJ, 4, .inr (.inl f))), (h3, mkC h4), (h4, .inl (cJ, 4, .inr (.inl g)))]) [0, 1, 2, 3, 4] rfl
  have hD9 := hD.sub (ws' := [(h0, boC h1 h3 bv), (h1, mkC h2), (h2, .inl (cJ, 4, .inr (.inl f))), (h3, mkC h4), (h4, .inl (cJ, 4, .inr (.inl g)))]) [0, 1, 2, 3, 4] (by decide) rfl
  exact W.vret hx hb hr (fun t ht hW => ⟨⟨(), rfl, trivial, ⟨bv, f, g, ⟨(by rw [← hRES, hE]), (by rw [← hRES, hE]), (by rw [← hRES, hE])⟩, by rw [ht]; exact hP9, va_K.moved hW.alike hK, hD9⟩⟩, hS.F ht⟩) hS.2.2 dX0_beginRecovery_12

set_option maxRecDepth 100000 in
def xc_bgoOn_2 (n1 : Int32) (n2 : Int32) : Nat → (Nat → Int32) → (Nat → Int64) → (Nat → Int64) → Int32 → Int32 → Int32 → (Nat → Int32) × (Nat → Int64) × (Nat → Int64)
  | 0, bv, f, g, i1, i2, i3 => (bv, f, g)
  | fu + 1, bv, f, g, i1, i2, i3 => (if i2 ≤ i3 then (bv, f, g) else bd (xc_drop g i3) (fun t1 => bd (t1) (fun g => bd (i3 + 1) (fun v2 => xc_bgoOn_2 n1 n2 fu bv f g i1 i2 v2))))
set_option maxRecDepth 100000 in
def xc_bgoOn (bv : Nat → Int32) (f : Nat → Int64) (g : Nat → Int64) (n1 : Int32) (n2 : Int32) : (Nat → Int32) × (Nat → Int64) × (Nat → Int64) := xc_bgoOn_2 n1 n2 ((n2.toInt - n1.toInt).toNat + 1) bv f g n1 n2 n1
set_option maxHeartbeats 4000000 in
set_option maxRecDepth 100000 in
theorem s_bgoOn (l : Launch) (D : va_G) (cI cJ cZ cO : ClassId) (sz : Nat) (h0 h1 h2 h3 h4 : Nat) (bv : Nat → Int32) (f g : Nat → Int64) (n1 n2 : Int32) : Met l yX0_goOn (wa yX0_goOn cX0_goOn 4 none) ({ frames := 1, cells := 0, slots := 0, locals := 21 }) (va_Pc [.ref h0, .int n1, .int n2] (pw_s D cI cJ cZ cO sz [(h0, boC h1 h3 bv), (h1, mkC h2), (h2, .inl (cJ, 4, .inr (.inl f))), (h3, mkC h4), (h4, .inl (cJ, 4, .inr (.inl g)))])) (va_Qv (fun (_ : Unit) => True) (fun (_ : Unit) (t : State) => ∃ (bv2 : Nat → Int32) (f2 g2 : Nat → Int64), (bv2 = (xc_bgoOn bv f g n1 n2).1 ∧ f2 = (xc_bgoOn bv f g n1 n2).2.1 ∧ g2 = (xc_bgoOn bv f g n1 n2).2.2) ∧ pw_t D cI cJ cZ cO (va_A [(h0, boC h1 h3 bv), (h1, mkC h2), (h2, .inl (cJ, 4, .inr (.inl f))), (h3, mkC h4), (h4, .inl (cJ, 4, .inr (.inl g)))] sz) [(h0, boC h1 h3 bv2), (h1, mkC h2), (h2, .inl (cJ, 4, .inr (.inl f2))), (h3, mkC h4), (h4, .inl (cJ, 4, .inr (.inl g2)))] t) (va_A [(h0, boC h1 h3 bv), (h1, mkC h2), (h2, .inl (cJ, 4, .inr (.inl f))), (h3, mkC h4), (h4, .inl (cJ, 4, .inr (.inl g)))] sz)) 0 0 (va_A [(h0, boC h1 h3 bv), (h1, mkC h2), (h2, .inl (cJ, 4, .inr (.inl f))), (h3, mkC h4), (h4, .inl (cJ, 4, .inr (.inl g)))] sz) := by
  refine Met.ofW (cc := cX0_goOn) (maxL := 4) (ret := none) (by decide) rfl ?_
  intro p e s m args below meth c s₁ B hml hv
  obtain ⟨rfl, hsz, hP, hK, hD0, hN⟩ := hv
  have hx := B.exec
  have hb := B.bytes
  have hr := B.returns
  have hts := atoms_spec (ws := (wa yX0_goOn cX0_goOn 4 none)) B.pre
  have ha : ∀ w ∈ wsL_law, w.before _ s = true := fun w h => hts w (List.mem_cons_of_mem _ h)
  have hown : s.vm.findClass RX0 = some m.cls := findClass_of_methodNamed B.named
  have hlocks := B.notSynchronized
  subst hsz
  have hD := hD0.self (sz := s.heap.size)
  generalize hAe : va_A [(h0, boC h1 h3 bv), (h1, mkC h2), (h2, .inl (cJ, 4, .inr (.inl f))), (h3, mkC h4), (h4, .inl (cJ, 4, .inr (.inl g)))] s.heap.size = A at hD ⊢
  have hA : ∀ q : Nat, s.heap.size ≤ q → A q := fun q h => by rw [← hAe]; exact Or.inr h
  have hS : va_S A s.heap s.heap [] := va_S.rf
  have hP : va_P D vwCl [(h0, boC h1 h3 bv), (h1, mkC h2), (h2, .inl (cJ, 4, .inr (.inl f))), (h3, mkC h4), (h4, .inl (cJ, 4, .inr (.inl g)))] s.heap := hP
  have hl := lv_entry ([.ref h0, .int n1, .int n2]) (n := 4) (Nat.le_of_ble_eq_true rfl)
  rw [lg_entry_eq]
  generalize (lg_sl ([.ref h0, .int n1, .int n2]) ++ List.replicate (4 - (lg_sl ([.ref h0, .int n1, .int n2])).length) Slot.unset).toArray = ls at hl ⊢
  have hl : lv_has ls 4 [(0, .ref h0), (1, .int n1), (2, .int n2)] := hl
  obtain ⟨QP, hQP⟩ : ∃ y : State → Prop, y = (MQ below (va_Qv (fun (_ : Unit) => True) (fun (_ : Unit) (t : State) => ∃ (bv2 : Nat → Int32) (f2 g2 : Nat → Int64), (bv2 = (xc_bgoOn bv f g n1 n2).1 ∧ f2 = (xc_bgoOn bv f g n1 n2).2.1 ∧ g2 = (xc_bgoOn bv f g n1 n2).2.2) ∧ pw_t D cI cJ cZ cO A [(h0, boC h1 h3 bv2), (h1, mkC h2), (h2, .inl (cJ, 4, .inr (.inl f2))), (h3, mkC h4), (h4, .inl (cJ, 4, .inr (.inl g2)))] t) A) #[(.ref h0 : Value), (.int n1 : Value), (.int n2 : Value)] s 0 0 A) := ⟨_, rfl⟩
  obtain ⟨RES, hRES⟩ : ∃ y, y = (xc_bgoOn bv f g n1 n2) := ⟨_, rfl⟩
  have L_2 : ∀ (n_2 : Nat), ∀ (bv : Nat → Int32) (f : Nat → Int64) (g : Nat → Int64) (H : Heap) (locs : List Loc), va_P D vwCl [(h0, boC h1 h3 bv), (h1, mkC h2), (h2, .inl (cJ, 4, .inr (.inl f))), (h3, mkC h4), (h4, .inl (cJ, 4, .inr (.inl g)))] H → va_D A [(h0, boC h1 h3 bv), (h1, mkC h2), (h2, .inl (cJ, 4, .inr (.inl f))), (h3, mkC h4), (h4, .inl (cJ, 4, .inr (.inl g)))] → va_S A s.heap H locs → ∀ (i1 : Int32) (i2 : Int32) (i3 : Int32) (ls : Array Slot), lv_has ls 4 [(0, .ref h0), (1, .int i1), (2, .int i2), (3, .int i3)] → RES = xc_bgoOn_2 n1 n2 n_2 bv f g i1 i2 i3 →  (i2.toInt - i3.toInt).toNat < n_2 → W p l e ({ frames := 1, cells := 0, slots := 0, locals := 21 }) s m #[(.ref h0 : Value), (.int n1 : Value), (.int n2 : Value)] below meth c H locs 0 0 QP (F0 m 2 ls []) := by
    intro n_2
    induction n_2 with
    | zero => intro bv f g H locs hP hD hS i1 i2 i3 ls hl hE hm; exact absurd hm (Nat.not_lt_zero _)
    | succ n_2 ih_2 =>
      intro bv f g H locs hP hD hS i1 i2 i3 ls hl hE hm_2
      rw [xc_bgoOn_2] at hE
      refine lv_iload_n hx hb dX0_goOn_2 rfl (lv_at hl 3 rfl) ?_
      refine lv_iload_n hx hb dX0_goOn_3 rfl (lv_at hl 2 rfl) ?_
      refine lv_icmp_ge (tgt := 21) hx hb dX0_goOn_4 (by decide) (fun c_5 => ?_) (fun c_5 => ?_)
      · have hE := hE.trans (if_pos c_5)
        rw [hQP]
        have hP9 := hP.sub (ws' := [(h0, boC h1 h3 bv), (h1, mkC h2), (h2, .inl (cJ, 4, .inr (.inl f))), (h3, mkC h4), (h4, .inl (cJ, 4, .inr (.inl g)))]) [0, 1, 2, 3, 4] rfl
        have hD9 := hD.sub (ws' := [(h0, boC h1 h3 bv), (h1, mkC h2), (h2, .inl (cJ, 4, .inr (.inl f))), (h3, mkC h4), (h4, .inl (cJ, 4, .inr (.inl g)))]) [0, 1, 2, 3, 4] (by decide) rfl
        exact W.vret hx hb hr (fun t ht hW => ⟨⟨(), rfl, trivial, ⟨bv, f, g, ⟨(by rw [← hRES, hE]), (by rw [← hRES, hE]), (by rw [← hRES, hE])⟩, by rw [ht]; exact hP9, va_K.moved hW.alike hK, hD9⟩⟩, hS.F ht⟩) hS.2.2 dX0_goOn_21
      · have hE := hE.trans (if_neg c_5)
        refine lv_aload_n hx hb dX0_goOn_7 rfl (lv_at hl 0 rfl) ?_
        refine va_get (D := D) (ci := 0) (v := .ref h3) (C := RX0) (T := TX0) (N := 4) hx hb ha inlX0 hown hK hP 0 rfl rfl 1 (by decide) (ha _ kf_X0_18) (fun _ h9 => h9) rfl dX0_goOn_8 ?_
        refine lv_iload_n hx hb dX0_goOn_11 rfl (lv_at hl 3 rfl) ?_
        have hPc := hP.sub (ws' := [(h3, mkC h4), (h4, .inl (cJ, 4, .inr (.inl g)))]) [3, 4] rfl
        have hDc := hD.sub (ws' := [(h3, mkC h4), (h4, .inl (cJ, 4, .inr (.inl g)))]) [3, 4] (by decide) rfl
        have hFc := va_free (wc := [(h3, mkC h4), (h4, .inl (cJ, 4, .inr (.inl g)))]) hD hS hA [3, 4] rfl
        refine va_callv (va_runV (As := [.int i3]) (rest := []) ⟨hx, hb, hml, hown, ha⟩ (s_drop l D cI cJ cZ cO _ h3 h4 g i3) (cwV 1 ha (gaV kl_X0_43 km_X4_drop ks_X4_drop kz_X4 kd_X4_drop) rfl rfl rfl (by decide +kernel) ⟨Nat.le_of_ble_eq_true rfl, Nat.le_of_ble_eq_true rfl⟩) ⟨pw_blind, va_recv hK hPc (ci := 4) (q0 := 0) rfl rfl, fun U hU hW => ⟨rfl, pw_start hU hW hPc hK hDc hN⟩⟩ rfl rfl hl.1 rfl (lv_room (Nat.le_of_ble_eq_true rfl)) dX0_goOn_12 ⟨Nat.le_of_ble_eq_true rfl, Nat.le_of_ble_eq_true rfl⟩) hS (fun q _ h => hFc q h) hFc (fun u t H1 locs ht hvm hw hB hz1 hk1 hS => ?_)
        obtain ⟨g, hX0, hP1, hK1, hD1⟩ := hB
        have hE := bd_at rfl hE
        have hE := bd_at hX0 hE
        rw [ht] at hP1
        obtain ⟨hP, hD⟩ := va_join (wr := [(h0, boC h1 h3 bv), (h1, mkC h2), (h2, .inl (cJ, 4, .inr (.inl f)))]) (w1 := [(h3, mkC h4), (h4, .inl (cJ, 4, .inr (.inl g)))]) hP hD [3, 4] [0, 1, 2] rfl rfl (by decide) (by decide) hk1 hFc hP1 hD1
        generalize H1 = H at hP hS ⊢
        have hP : va_P D vwCl [(h0, boC h1 h3 bv), (h1, mkC h2), (h2, .inl (cJ, 4, .inr (.inl f))), (h3, mkC h4), (h4, .inl (cJ, 4, .inr (.inl g)))] H := hP
        have hD : va_D A [(h0, boC h1 h3 bv), (h1, mkC h2), (h2, .inl (cJ, 4, .inr (.inl f))), (h3, mkC h4), (h4, .inl (cJ, 4, .inr (.inl g)))] := hD
        refine W.widen (k := 0) (n := 0) (Nat.le_of_ble_eq_true rfl) (Nat.le_of_ble_eq_true rfl) ?_
        obtain ⟨x_8, ex_8⟩ : ∃ y : Int32, y = i3 + 1 := ⟨_, rfl⟩
        have hE := bd_at ex_8 hE
        refine lv_iinc (v := x_8) (lv' := [(3, .int x_8), (0, .ref h0), (1, .int i1), (2, .int i2)]) hx hb dX0_goOn_15 hl (k := 3) rfl (by rw [ex_8]; rfl) (by decide) rfl (fun ls hl => ?_)
        refine lv_goto (tgt := 2) hx hb dX0_goOn_18 (by decide) ?_
        exact ih_2 bv f g _ _ hP hD hS i1 i2 x_8 _ (lv_sub hl [1, 2, 3, 0] rfl) hE (Nat.lt_of_lt_of_le (sw_up c_5 ex_8) (Nat.le_of_lt_succ hm_2))
  rw [hQP] at L_2
  -- from the entry
  have hE := hRES
  unfold xc_bgoOn at hE
  refine lv_iload_n hx hb dX0_goOn_0 rfl (lv_at hl 1 rfl) ?_
  refine lv_istore_n (lv' := [(3, .int n1), (0, .ref h0), (1, .int n1), (2, .int n2)]) hx hb dX0_goOn_1 rfl hl (by decide) rfl (fun ls hl => ?_)
  exact L_2 ((n2.toInt - n1.toInt).toNat + 1) bv f g _ _ hP hD hS n1 n2 n1 _ (lv_sub hl [1, 2, 3, 0] rfl) hE (Nat.lt_succ_self _)

set_option maxRecDepth 100000 in
def xc_isLost (bv : Nat → Int32) (f : Nat → Int64) (g : Nat → Int64) (n1 : Int32) : (Nat → Int32) × (Nat → Int64) × (Nat → Int64) × Int32 := bd (bv 3) (fun v1 => (if n1 = v1 then (bv, f, g, (1 : Int32)) else bd (bv 2) (fun v2 => (if v2 ≤ n1 then (bv, f, g, (0 : Int32)) else bd (xc_has f n1) (fun t3 => bd (t3.1) (fun f => bd (t3.2) (fun v4 => (if v4 = (0 : Int32) then (bv, f, g, (1 : Int32)) else (bv, f, g, (0 : Int32))))))))))
set_option maxHeartbeats 4000000 in
set_option maxRecDepth 100000 in
theorem s_isLost (l : Launch) (D : va_G) (cI cJ cZ cO : ClassId) (sz : Nat) (h0 h1 h2 h3 h4 : Nat) (bv : Nat → Int32) (f g : Nat → Int64) (n1 : Int32) : Met l yX0_isLost (wa yX0_isLost cX0_isLost 2 (some .boolean)) ({ frames := 1, cells := 0, slots := 0, locals := 21 }) (va_Pc [.ref h0, .int n1] (pw_s D cI cJ cZ cO sz [(h0, boC h1 h3 bv), (h1, mkC h2), (h2, .inl (cJ, 4, .inr (.inl f))), (h3, mkC h4), (h4, .inl (cJ, 4, .inr (.inl g)))])) (va_Qi (fun (r : Int32) (_ : Unit) => ((r = 0 ∨ r = 1) ∧ r = (xc_isLost bv f g n1).2.2.2)) (fun (_ : Unit) (t : State) => ∃ (bv2 : Nat → Int32) (f2 g2 : Nat → Int64), (bv2 = (xc_isLost bv f g n1).1 ∧ f2 = (xc_isLost bv f g n1).2.1 ∧ g2 = (xc_isLost bv f g n1).2.2.1) ∧ pw_t D cI cJ cZ cO (va_A [(h0, boC h1 h3 bv), (h1, mkC h2), (h2, .inl (cJ, 4, .inr (.inl f))), (h3, mkC h4), (h4, .inl (cJ, 4, .inr (.inl g)))] sz) [(h0, boC h1 h3 bv2), (h1, mkC h2), (h2, .inl (cJ, 4, .inr (.inl f2))), (h3, mkC h4), (h4, .inl (cJ, 4, .inr (.inl g2)))] t) (va_A [(h0, boC h1 h3 bv), (h1, mkC h2), (h2, .inl (cJ, 4, .inr (.inl f))), (h3, mkC h4), (h4, .inl (cJ, 4, .inr (.inl g)))] sz)) 0 0 (va_A [(h0, boC h1 h3 bv), (h1, mkC h2), (h2, .inl (cJ, 4, .inr (.inl f))), (h3, mkC h4), (h4, .inl (cJ, 4, .inr (.inl g)))] sz) := by
  refine Met.ofW (cc := cX0_isLost) (maxL := 2) (ret := (some .boolean)) (by decide) rfl ?_
  intro p e s m args below meth c s₁ B hml hv
  obtain ⟨rfl, hsz, hP, hK, hD0, hN⟩ := hv
  have hx := B.exec
  have hb := B.bytes
  have hr := B.returns
  have hts := atoms_spec (ws := (wa yX0_isLost cX0_isLost 2 (some .boolean))) B.pre
  have ha : ∀ w ∈ wsL_law, w.before _ s = true := fun w h => hts w (List.mem_cons_of_mem _ h)
  have hown : s.vm.findClass RX0 = some m.cls := findClass_of_methodNamed B.named
  have hlocks := B.notSynchronized
  subst hsz
  have hD := hD0.self (sz := s.heap.size)
  generalize hAe : va_A [(h0, boC h1 h3 bv), (h1, mkC h2), (h2, .inl (cJ, 4, .inr (.inl f))), (h3, mkC h4), (h4, .inl (cJ, 4, .inr (.inl g)))] s.heap.size = A at hD ⊢
  have hA : ∀ q : Nat, s.heap.size ≤ q → A q := fun q h => by rw [← hAe]; exact Or.inr h
  have hS : va_S A s.heap s.heap [] := va_S.rf
  have hP : va_P D vwCl [(h0, boC h1 h3 bv), (h1, mkC h2), (h2, .inl (cJ, 4, .inr (.inl f))), (h3, mkC h4), (h4, .inl (cJ, 4, .inr (.inl g)))] s.heap := hP
  have hl := lv_entry ([.ref h0, .int n1]) (n := 2) (Nat.le_of_ble_eq_true rfl)
  rw [lg_entry_eq]
  generalize (lg_sl ([.ref h0, .int n1]) ++ List.replicate (2 - (lg_sl ([.ref h0, .int n1])).length) Slot.unset).toArray = ls at hl ⊢
  have hl : lv_has ls 2 [(0, .ref h0), (1, .int n1)] := hl
  obtain ⟨QP, hQP⟩ : ∃ y : State → Prop, y = (MQ below (va_Qi (fun (r : Int32) (_ : Unit) => ((r = 0 ∨ r = 1) ∧ r = (xc_isLost bv f g n1).2.2.2)) (fun (_ : Unit) (t : State) => ∃ (bv2 : Nat → Int32) (f2 g2 : Nat → Int64), (bv2 = (xc_isLost bv f g n1).1 ∧ f2 = (xc_isLost bv f g n1).2.1 ∧ g2 = (xc_isLost bv f g n1).2.2.1) ∧ pw_t D cI cJ cZ cO A [(h0, boC h1 h3 bv2), (h1, mkC h2), (h2, .inl (cJ, 4, .inr (.inl f2))), (h3, mkC h4), (h4, .inl (cJ, 4, .inr (.inl g2)))] t) A) #[(.ref h0 : Value), (.int n1 : Value)] s 0 0 A) := ⟨_, rfl⟩
  obtain ⟨RES, hRES⟩ : ∃ y, y = (xc_isLost bv f g n1) := ⟨_, rfl⟩
  -- from the entry
  have hE := hRES
  unfold xc_isLost at hE
  refine lv_iload_n hx hb dX0_isLost_0 rfl (lv_at hl 1 rfl) ?_
  refine lv_aload_n hx hb dX0_isLost_1 rfl (lv_at hl 0 rfl) ?_
  refine va_get (D := D) (ci := 0) (v := .int (bv 3)) (C := RX0) (T := TX0) (N := 4) hx hb ha inlX0 hown hK hP 0 rfl rfl 3 (by decide) (ha _ kf_X0_21) (fun _ h9 => h9) rfl dX0_isLost_2 ?_
  refine lv_topi (fun x_8 ex_8 => ?_)
  have hE := bd_at ex_8 hE
  refine lv_icmp_eq (tgt := 27) hx hb dX0_isLost_5 (by decide) (fun c_9 => ?_) (fun c_9 => ?_)
  · have hE := hE.trans (if_pos c_9)
    refine lv_iconst (v := 1) hx hb dX0_isLost_27 (by decide) ?_
    refine lv_goto (tgt := 32) hx hb dX0_isLost_28 (by decide) ?_
    have hP9 := hP.sub (ws' := [(h0, boC h1 h3 bv), (h1, mkC h2), (h2, .inl (cJ, 4, .inr (.inl f))), (h3, mkC h4), (h4, .inl (cJ, 4, .inr (.inl g)))]) [0, 1, 2, 3, 4] rfl
    have hD9 := hD.sub (ws' := [(h0, boC h1 h3 bv), (h1, mkC h2), (h2, .inl (cJ, 4, .inr (.inl f))), (h3, mkC h4), (h4, .inl (cJ, 4, .inr (.inl g)))]) [0, 1, 2, 3, 4] (by decide) rfl
    exact W.zret (v := 1) hx hb hr rfl (fun t ht hW => ⟨⟨1, (), rfl, ⟨(by decide), (by rw [← hRES, hE])⟩, ⟨bv, f, g, ⟨(by rw [← hRES, hE]), (by rw [← hRES, hE]), (by rw [← hRES, hE])⟩, by rw [ht]; exact hP9, va_K.moved hW.alike hK, hD9⟩⟩, hS.F ht⟩) hS.2.2 dX0_isLost_32
  · have hE := hE.trans (if_neg c_9)
    refine lv_iload_n hx hb dX0_isLost_8 rfl (lv_at hl 1 rfl) ?_
    refine lv_aload_n hx hb dX0_isLost_9 rfl (lv_at hl 0 rfl) ?_
    refine va_get (D := D) (ci := 0) (v := .int (bv 2)) (C := RX0) (T := TX0) (N := 4) hx hb ha inlX0 hown hK hP 0 rfl rfl 2 (by decide) (ha _ kf_X0_29) (fun _ h9 => h9) rfl dX0_isLost_10 ?_
    refine lv_topi (fun x_10 ex_10 => ?_)
    have hE := bd_at ex_10 hE
    refine lv_icmp_ge (tgt := 31) hx hb dX0_isLost_13 (by decide) (fun c_11 => ?_) (fun c_11 => ?_)
    · have hE := hE.trans (if_pos c_11)
      refine lv_iconst (v := 0) hx hb dX0_isLost_31 (by decide) ?_
      have hP9 := hP.sub (ws' := [(h0, boC h1 h3 bv), (h1, mkC h2), (h2, .inl (cJ, 4, .inr (.inl f))), (h3, mkC h4), (h4, .inl (cJ, 4, .inr (.inl g)))]) [0, 1, 2, 3, 4] rfl
      have hD9 := hD.sub (ws' := [(h0, boC h1 h3 bv), (h1, mkC h2), (h2, .inl (cJ, 4, .inr (.inl f))), (h3, mkC h4), (h4, .inl (cJ, 4, .inr (.inl g)))]) [0, 1, 2, 3, 4] (by decide) rfl
      exact W.zret (v := 0) hx hb hr rfl (fun t ht hW => ⟨⟨0, (), rfl, ⟨(by decide), (by rw [← hRES, hE])⟩, ⟨bv, f, g, ⟨(by rw [← hRES, hE]), (by rw [← hRES, hE]), (by rw [← hRES, hE])⟩, by rw [ht]; exact hP9, va_K.moved hW.alike hK, hD9⟩⟩, hS.F ht⟩) hS.2.2 dX0_isLost_32
    · have hE := hE.trans (if_neg c_11)
      refine lv_aload_n hx hb dX0_isLost_16 rfl (lv_at hl 0 rfl) ?_
      refine va_get (D := D) (ci := 0) (v := .ref h1) (C := RX0) (T := TX0) (N := 4) hx hb ha inlX0 hown hK hP 0 rfl rfl 0 (by decide) (ha _ kf_X0_12) (fun _ h9 => h9) rfl dX0_isLost_17 ?_
      refine lv_iload_n hx hb dX0_isLost_20 rfl (lv_at hl 1 rfl) ?_
      have hPc := hP.sub (ws' := [(h1, mkC h2), (h2, .inl (cJ, 4, .inr (.inl f)))]) [1, 2] rfl
      have hDc := hD.sub (ws' := [(h1, mkC h2), (h2, .inl (cJ, 4, .inr (.inl f)))]) [1, 2] (by decide) rfl
      have hFc := va_free (wc := [(h1, mkC h2), (h2, .inl (cJ, 4, .inr (.inl f)))]) hD hS hA [1, 2] rfl
      refine va_calli (va_runV (As := [.int n1]) (rest := []) ⟨hx, hb, hml, hown, ha⟩ (s_has l D cI cJ cZ cO _ h1 h2 f n1) (cwV 1 ha (gaV kl_X0_36 km_X4_has ks_X4_has kz_X4 kd_X4_has) rfl rfl rfl (by decide +kernel) ⟨Nat.le_of_ble_eq_true rfl, Nat.le_of_ble_eq_true rfl⟩) ⟨pw_blind, va_recv hK hPc (ci := 4) (q0 := 0) rfl rfl, fun U hU hW => ⟨rfl, pw_start hU hW hPc hK hDc hN⟩⟩ rfl rfl hl.1 rfl (lv_room (Nat.le_of_ble_eq_true rfl)) dX0_isLost_21 ⟨Nat.le_of_ble_eq_true rfl, Nat.le_of_ble_eq_true rfl⟩) hS (fun q _ h => hFc q h) hFc (fun r_12 u t H1 locs ht hvm hw hB hz1 hk1 hS => ?_)
      obtain ⟨f, hX0, hP1, hK1, hD1⟩ := hB
      have hE := bd_at rfl hE
      have hE := bd_at hX0 hE
      have hE := bd_at hw.2 hE
      rw [ht] at hP1
      obtain ⟨hP, hD⟩ := va_join (wr := [(h0, boC h1 h3 bv), (h3, mkC h4), (h4, .inl (cJ, 4, .inr (.inl g)))]) (w1 := [(h1, mkC h2), (h2, .inl (cJ, 4, .inr (.inl f)))]) hP hD [1, 2] [0, 3, 4] rfl rfl (by decide) (by decide) hk1 hFc hP1 hD1
      generalize H1 = H at hP hS ⊢
      have hP : va_P D vwCl [(h0, boC h1 h3 bv), (h3, mkC h4), (h4, .inl (cJ, 4, .inr (.inl g))), (h1, mkC h2), (h2, .inl (cJ, 4, .inr (.inl f)))] H := hP
      have hD : va_D A [(h0, boC h1 h3 bv), (h3, mkC h4), (h4, .inl (cJ, 4, .inr (.inl g))), (h1, mkC h2), (h2, .inl (cJ, 4, .inr (.inl f)))] := hD
      refine W.widen (k := 0) (n := 0) (Nat.le_of_ble_eq_true rfl) (Nat.le_of_ble_eq_true rfl) ?_
      have hr_12 := hw.1
      refine lv_if_ne (tgt := 31) hx hb dX0_isLost_24 (by decide) (fun c_14 => ?_) (fun c_14 => ?_)
      · have hE := hE.trans (if_neg c_14)
        refine lv_iconst (v := 0) hx hb dX0_isLost_31 (by decide) ?_
        have hP9 := hP.sub (ws' := [(h0, boC h1 h3 bv), (h1, mkC h2), (h2, .inl (cJ, 4, .inr (.inl f))), (h3, mkC h4), (h4, .inl (cJ, 4, .inr (.inl g)))]) [0, 3, 4, 1, 2] rfl
        have hD9 := hD.sub (ws' := [(h0, boC h1 h3 bv), (h1, mkC h2), (h2, .inl (cJ, 4, .inr (.inl f))), (h3, mkC h4), (h4, .inl (cJ, 4, .inr (.inl g)))]) [0, 3, 4, 1, 2] (by decide) rfl
        exact W.zret (v := 0) hx hb hr rfl (fun t ht hW => ⟨⟨0, (), rfl, ⟨(by decide), (by rw [← hRES, hE])⟩, ⟨bv, f, g, ⟨(by rw [← hRES, hE]), (by rw [← hRES, hE]), (by rw [← hRES, hE])⟩, by rw [ht]; exact hP9, va_K.moved hW.alike hK, hD9⟩⟩, hS.F ht⟩) hS.2.2 dX0_isLost_32
      · have hE := hE.trans (if_pos c_14)
        refine lv_iconst (v := 1) hx hb dX0_isLost_27 (by decide) ?_
        refine lv_goto (tgt := 32) hx hb dX0_isLost_28 (by decide) ?_
        have hP9 := hP.sub (ws' := [(h0, boC h1 h3 bv), (h1, mkC h2), (h2, .inl (cJ, 4, .inr (.inl f))), (h3, mkC h4), (h4, .inl (cJ, 4, .inr (.inl g)))]) [0, 3, 4, 1, 2] rfl
        have hD9 := hD.sub (ws' := [(h0, boC h1 h3 bv), (h1, mkC h2), (h2, .inl (cJ, 4, .inr (.inl f))), (h3, mkC h4), (h4, .inl (cJ, 4, .inr (.inl g)))]) [0, 3, 4, 1, 2] (by decide) rfl
        exact W.zret (v := 1) hx hb hr rfl (fun t ht hW => ⟨⟨1, (), rfl, ⟨(by decide), (by rw [← hRES, hE])⟩, ⟨bv, f, g, ⟨(by rw [← hRES, hE]), (by rw [← hRES, hE]), (by rw [← hRES, hE])⟩, by rw [ht]; exact hP9, va_K.moved hW.alike hK, hD9⟩⟩, hS.F ht⟩) hS.2.2 dX0_isLost_32

set_option maxRecDepth 100000 in
def xc_leastLost_28 (n1 : Int32) (n2 : Int32) (k_2 : (Nat → Int32) → (Nat → Int64) → (Nat → Int64) → Int32 → Int32 → Int32 → (Nat → Int32) × (Nat → Int64) × (Nat → Int64) × Int32) (bv : Nat → Int32) (f : Nat → Int64) (g : Nat → Int64) (i1 : Int32) (i2 : Int32) (i3 : Int32) : (Nat → Int32) × (Nat → Int64) × (Nat → Int64) × Int32 := bd (i3 + 1) (fun v1 => k_2 bv f g i1 i2 v1)
set_option maxRecDepth 100000 in
def xc_leastLost_2 (n1 : Int32) (n2 : Int32) : Nat → (Nat → Int32) → (Nat → Int64) → (Nat → Int64) → Int32 → Int32 → Int32 → (Nat → Int32) × (Nat → Int64) × (Nat → Int64) × Int32
  | 0, bv, f, g, i1, i2, i3 => (bv, f, g, 0)
  | fu + 1, bv, f, g, i1, i2, i3 => (if i2 ≤ i3 then (bv, f, g, ((-1) : Int32)) else bd (xc_isLost bv f g i3) (fun t2 => bd (t2.1) (fun bv => bd (t2.2.1) (fun f => bd (t2.2.2.1) (fun g => bd (t2.2.2.2) (fun v3 => (if v3 = (0 : Int32) then xc_leastLost_28 n1 n2 (xc_leastLost_2 n1 n2 fu) bv f g i1 i2 i3 else bd (xc_has g i3) (fun t4 => bd (t4.1) (fun g => bd (t4.2) (fun v5 => (if v5 = (0 : Int32) then (bv, f, g, i3) else xc_leastLost_28 n1 n2 (xc_leastLost_2 n1 n2 fu) bv f g i1 i2 i3)))))))))))
set_option maxRecDepth 100000 in
def xc_leastLost (bv : Nat → Int32) (f : Nat → Int64) (g : Nat → Int64) (n1 : Int32) (n2 : Int32) : (Nat → Int32) × (Nat → Int64) × (Nat → Int64) × Int32 := xc_leastLost_2 n1 n2 ((n2.toInt - n1.toInt).toNat + 1) bv f g n1 n2 n1
set_option maxHeartbeats 4000000 in
set_option maxRecDepth 100000 in
theorem s_leastLost (l : Launch) (D : va_G) (cI cJ cZ cO : ClassId) (sz : Nat) (h0 h1 h2 h3 h4 : Nat) (bv : Nat → Int32) (f g : Nat → Int64) (n1 n2 : Int32) : Met l yX0_leastLost (wa yX0_leastLost cX0_leastLost 4 (some .int)) ({ frames := 2, cells := 0, slots := 0, locals := 42 }) (va_Pc [.ref h0, .int n1, .int n2] (pw_s D cI cJ cZ cO sz [(h0, boC h1 h3 bv), (h1, mkC h2), (h2, .inl (cJ, 4, .inr (.inl f))), (h3, mkC h4), (h4, .inl (cJ, 4, .inr (.inl g)))])) (va_Qi (fun (r : Int32) (_ : Unit) => ((True) ∧ r = (xc_leastLost bv f g n1 n2).2.2.2)) (fun (_ : Unit) (t : State) => ∃ (bv2 : Nat → Int32) (f2 g2 : Nat → Int64), (bv2 = (xc_leastLost bv f g n1 n2).1 ∧ f2 = (xc_leastLost bv f g n1 n2).2.1 ∧ g2 = (xc_leastLost bv f g n1 n2).2.2.1) ∧ pw_t D cI cJ cZ cO (va_A [(h0, boC h1 h3 bv), (h1, mkC h2), (h2, .inl (cJ, 4, .inr (.inl f))), (h3, mkC h4), (h4, .inl (cJ, 4, .inr (.inl g)))] sz) [(h0, boC h1 h3 bv2), (h1, mkC h2), (h2, .inl (cJ, 4, .inr (.inl f2))), (h3, mkC h4), (h4, .inl (cJ, 4, .inr (.inl g2)))] t) (va_A [(h0, boC h1 h3 bv), (h1, mkC h2), (h2, .inl (cJ, 4, .inr (.inl f))), (h3, mkC h4), (h4, .inl (cJ, 4, .inr (.inl g)))] sz)) 0 0 (va_A [(h0, boC h1 h3 bv), (h1, mkC h2), (h2, .inl (cJ, 4, .inr (.inl f))), (h3, mkC h4), (h4, .inl (cJ, 4, .inr (.inl g)))] sz) := by
  refine Met.ofW (cc := cX0_leastLost) (maxL := 4) (ret := (some .int)) (by decide) rfl ?_
  intro p e s m args below meth c s₁ B hml hv
  obtain ⟨rfl, hsz, hP, hK, hD0, hN⟩ := hv
  have hx := B.exec
  have hb := B.bytes
  have hr := B.returns
  have hts := atoms_spec (ws := (wa yX0_leastLost cX0_leastLost 4 (some .int))) B.pre
  have ha : ∀ w ∈ wsL_law, w.before _ s = true := fun w h => hts w (List.mem_cons_of_mem _ h)
  have hown : s.vm.findClass RX0 = some m.cls := findClass_of_methodNamed B.named
  have hlocks := B.notSynchronized
  subst hsz
  have hD := hD0.self (sz := s.heap.size)
  generalize hAe : va_A [(h0, boC h1 h3 bv), (h1, mkC h2), (h2, .inl (cJ, 4, .inr (.inl f))), (h3, mkC h4), (h4, .inl (cJ, 4, .inr (.inl g)))] s.heap.size = A at hD ⊢
  have hA : ∀ q : Nat, s.heap.size ≤ q → A q := fun q h => by rw [← hAe]; exact Or.inr h
  have hS : va_S A s.heap s.heap [] := va_S.rf
  have hP : va_P D vwCl [(h0, boC h1 h3 bv), (h1, mkC h2), (h2, .inl (cJ, 4, .inr (.inl f))), (h3, mkC h4), (h4, .inl (cJ, 4, .inr (.inl g)))] s.heap := hP
  have hl := lv_entry ([.ref h0, .int n1, .int n2]) (n := 4) (Nat.le_of_ble_eq_true rfl)
  rw [lg_entry_eq]
  generalize (lg_sl ([.ref h0, .int n1, .int n2]) ++ List.replicate (4 - (lg_sl ([.ref h0, .int n1, .int n2])).length) Slot.unset).toArray = ls at hl ⊢
  have hl : lv_has ls 4 [(0, .ref h0), (1, .int n1), (2, .int n2)] := hl
  obtain ⟨QP, hQP⟩ : ∃ y : State → Prop, y = (MQ below (va_Qi (fun (r : Int32) (_ : Unit) => ((True) ∧ r = (xc_leastLost bv f g n1 n2).2.2.2)) (fun (_ : Unit) (t : State) => ∃ (bv2 : Nat → Int32) (f2 g2 : Nat → Int64), (bv2 = (xc_leastLost bv f g n1 n2).1 ∧ f2 = (xc_leastLost bv f g n1 n2).2.1 ∧ g2 = (xc_leastLost bv f g n1 n2).2.2.1) ∧ pw_t D cI cJ cZ cO A [(h0, boC h1 h3 bv2), (h1, mkC h2), (h2, .inl (cJ, 4, .inr (.inl f2))), (h3, mkC h4), (h4, .inl (cJ, 4, .inr (.inl g2)))] t) A) #[(.ref h0 : Value), (.int n1 : Value), (.int n2 : Value)] s 0 0 A) := ⟨_, rfl⟩
  obtain ⟨RES, hRES⟩ : ∃ y, y = (xc_leastLost bv f g n1 n2) := ⟨_, rfl⟩
  have L_2 : ∀ (n_2 : Nat), ∀ (bv : Nat → Int32) (f : Nat → Int64) (g : Nat → Int64) (H : Heap) (locs : List Loc), va_P D vwCl [(h0, boC h1 h3 bv), (h1, mkC h2), (h2, .inl (cJ, 4, .inr (.inl f))), (h3, mkC h4), (h4, .inl (cJ, 4, .inr (.inl g)))] H → va_D A [(h0, boC h1 h3 bv), (h1, mkC h2), (h2, .inl (cJ, 4, .inr (.inl f))), (h3, mkC h4), (h4, .inl (cJ, 4, .inr (.inl g)))] → va_S A s.heap H locs → ∀ (i1 : Int32) (i2 : Int32) (i3 : Int32) (ls : Array Slot), lv_has ls 4 [(0, .ref h0), (1, .int i1), (2, .int i2), (3, .int i3)] → RES = xc_leastLost_2 n1 n2 n_2 bv f g i1 i2 i3 →  (i2.toInt - i3.toInt).toNat < n_2 → W p l e ({ frames := 2, cells := 0, slots := 0, locals := 42 }) s m #[(.ref h0 : Value), (.int n1 : Value), (.int n2 : Value)] below meth c H locs 0 0 QP (F0 m 2 ls []) := by
    intro n_2
    induction n_2 with
    | zero => intro bv f g H locs hP hD hS i1 i2 i3 ls hl hE hm; exact absurd hm (Nat.not_lt_zero _)
    | succ n_2 ih_2 =>
      have J_28 : ∀ (bv : Nat → Int32) (f : Nat → Int64) (g : Nat → Int64) (H : Heap) (locs : List Loc), va_P D vwCl [(h0, boC h1 h3 bv), (h1, mkC h2), (h2, .inl (cJ, 4, .inr (.inl f))), (h3, mkC h4), (h4, .inl (cJ, 4, .inr (.inl g)))] H → va_D A [(h0, boC h1 h3 bv), (h1, mkC h2), (h2, .inl (cJ, 4, .inr (.inl f))), (h3, mkC h4), (h4, .inl (cJ, 4, .inr (.inl g)))] → va_S A s.heap H locs → ∀ (i1 : Int32) (i2 : Int32) (i3 : Int32) (ls : Array Slot), lv_has ls 4 [(0, .ref h0), (1, .int i1), (2, .int i2), (3, .int i3)] → RES = xc_leastLost_28 n1 n2 (xc_leastLost_2 n1 n2 n_2) bv f g i1 i2 i3 → (i2.toInt - (i3 + 1).toInt).toNat < n_2 → W p l e ({ frames := 2, cells := 0, slots := 0, locals := 42 }) s m #[(.ref h0 : Value), (.int n1 : Value), (.int n2 : Value)] below meth c H locs 0 0 QP (F0 m 28 ls []) := by
        intro bv f g H locs hP hD hS i1 i2 i3 ls hl hE hq_2
        unfold xc_leastLost_28 at hE
        obtain ⟨x_11, ex_11⟩ : ∃ y : Int32, y = i3 + 1 := ⟨_, rfl⟩
        have hE := bd_at ex_11 hE
        refine lv_iinc (v := x_11) (lv' := [(3, .int x_11), (0, .ref h0), (1, .int i1), (2, .int i2)]) hx hb dX0_leastLost_28 hl (k := 3) rfl (by rw [ex_11]; rfl) (by decide) rfl (fun ls hl => ?_)
        refine lv_goto (tgt := 2) hx hb dX0_leastLost_31 (by decide) ?_
        exact ih_2 bv f g _ _ hP hD hS i1 i2 x_11 _ (lv_sub hl [1, 2, 3, 0] rfl) hE (by rw [ex_11]; exact hq_2)
      intro bv f g H locs hP hD hS i1 i2 i3 ls hl hE hm_2
      rw [xc_leastLost_2] at hE
      refine lv_iload_n hx hb dX0_leastLost_2 rfl (lv_at hl 3 rfl) ?_
      refine lv_iload_n hx hb dX0_leastLost_3 rfl (lv_at hl 2 rfl) ?_
      refine lv_icmp_ge (tgt := 34) hx hb dX0_leastLost_4 (by decide) (fun c_12 => ?_) (fun c_12 => ?_)
      · have hE := hE.trans (if_pos c_12)
        refine lv_iconst (v := (-1)) hx hb dX0_leastLost_34 (by decide) ?_
        rw [hQP]
        have hP9 := hP.sub (ws' := [(h0, boC h1 h3 bv), (h1, mkC h2), (h2, .inl (cJ, 4, .inr (.inl f))), (h3, mkC h4), (h4, .inl (cJ, 4, .inr (.inl g)))]) [0, 1, 2, 3, 4] rfl
        have hD9 := hD.sub (ws' := [(h0, boC h1 h3 bv), (h1, mkC h2), (h2, .inl (cJ, 4, .inr (.inl f))), (h3, mkC h4), (h4, .inl (cJ, 4, .inr (.inl g)))]) [0, 1, 2, 3, 4] (by decide) rfl
        exact W.iret (v := (-1)) hx hb hr (fun t ht hW => ⟨⟨(-1), (), rfl, ⟨(by decide), (by rw [← hRES, hE])⟩, ⟨bv, f, g, ⟨(by rw [← hRES, hE]), (by rw [← hRES, hE]), (by rw [← hRES, hE])⟩, by rw [ht]; exact hP9, va_K.moved hW.alike hK, hD9⟩⟩, hS.F ht⟩) hS.2.2 dX0_leastLost_35
      · have hE := hE.trans (if_neg c_12)
        refine lv_aload_n hx hb dX0_leastLost_7 rfl (lv_at hl 0 rfl) ?_
        refine lv_iload_n hx hb dX0_leastLost_8 rfl (lv_at hl 3 rfl) ?_
        have hPc := hP.sub (ws' := [(h0, boC h1 h3 bv), (h1, mkC h2), (h2, .inl (cJ, 4, .inr (.inl f))), (h3, mkC h4), (h4, .inl (cJ, 4, .inr (.inl g)))]) [0, 1, 2, 3, 4] rfl
        have hDc := hD.sub (ws' := [(h0, boC h1 h3 bv), (h1, mkC h2), (h2, .inl (cJ, 4, .inr (.inl f))), (h3, mkC h4), (h4, .inl (cJ, 4, .inr (.inl g)))]) [0, 1, 2, 3, 4] (by decide) rfl
        have hFc := va_free (wc := [(h0, boC h1 h3 bv), (h1, mkC h2), (h2, .inl (cJ, 4, .inr (.inl f))), (h3, mkC h4), (h4, .inl (cJ, 4, .inr (.inl g)))]) hD hS hA [0, 1, 2, 3, 4] rfl
        refine va_calli (va_runV (As := [.int i3]) (rest := []) ⟨hx, hb, hml, hown, ha⟩ (s_isLost l D cI cJ cZ cO _ h0 h1 h2 h3 h4 bv f g i3) (cwV 1 ha (gaV kl_X0_47 km_X0_isLost ks_X0_isLost kz_X0 kd_X0_isLost) rfl rfl rfl (by decide +kernel) ⟨Nat.le_of_ble_eq_true rfl, Nat.le_of_ble_eq_true rfl⟩) ⟨pw_blind, va_recv hK hPc (ci := 0) (q0 := 0) rfl rfl, fun U hU hW => ⟨rfl, pw_start hU hW hPc hK hDc hN⟩⟩ rfl rfl hl.1 rfl (lv_room (Nat.le_of_ble_eq_true rfl)) dX0_leastLost_9 ⟨Nat.le_of_ble_eq_true rfl, Nat.le_of_ble_eq_true rfl⟩) hS (fun q _ h => hFc q h) hFc (fun r_13 u t H1 locs ht hvm hw hB hz1 hk1 hS => ?_)
        obtain ⟨bv, f, g, ⟨hX0, hX1, hX2⟩, hP1, hK1, hD1⟩ := hB
        have hE := bd_at rfl hE
        have hE := bd_at hX0 hE
        have hE := bd_at hX1 hE
        have hE := bd_at hX2 hE
        have hE := bd_at hw.2 hE
        rw [ht] at hP1
        obtain ⟨hP, hD⟩ := va_join (wr := []) (w1 := [(h0, boC h1 h3 bv), (h1, mkC h2), (h2, .inl (cJ, 4, .inr (.inl f))), (h3, mkC h4), (h4, .inl (cJ, 4, .inr (.inl g)))]) hP hD [0, 1, 2, 3, 4] [] rfl rfl (by decide) (by decide) hk1 hFc hP1 hD1
        generalize H1 = H at hP hS ⊢
        have hP : va_P D vwCl [(h0, boC h1 h3 bv), (h1, mkC h2), (h2, .inl (cJ, 4, .inr (.inl f))), (h3, mkC h4), (h4, .inl (cJ, 4, .inr (.inl g)))] H := hP
        have hD : va_D A [(h0, boC h1 h3 bv), (h1, mkC h2), (h2, .inl (cJ, 4, .inr (.inl f))), (h3, mkC h4), (h4, .inl (cJ, 4, .inr (.inl g)))] := hD
        refine W.widen (k := 0) (n := 0) (Nat.le_of_ble_eq_true rfl) (Nat.le_of_ble_eq_true rfl) ?_
        have hr_13 := hw.1
        refine lv_if_eq (tgt := 28) hx hb dX0_leastLost_12 (by decide) (fun c_17 => ?_) (fun c_17 => ?_)
        · have hE := hE.trans (if_pos c_17)
          exact J_28 bv f g _ _ hP hD hS i1 i2 i3 _ (lv_sub hl [0, 1, 2, 3] rfl) hE (Nat.lt_of_lt_of_le (sw_up c_12 rfl) (Nat.le_of_lt_succ hm_2))
        · have hE := hE.trans (if_neg c_17)
          refine lv_aload_n hx hb dX0_leastLost_15 rfl (lv_at hl 0 rfl) ?_
          refine va_get (D := D) (ci := 0) (v := .ref h3) (C := RX0) (T := TX0) (N := 4) hx hb ha inlX0 hown hK hP 0 rfl rfl 1 (by decide) (ha _ kf_X0_18) (fun _ h9 => h9) rfl dX0_leastLost_16 ?_
          refine lv_iload_n hx hb dX0_leastLost_19 rfl (lv_at hl 3 rfl) ?_
          have hPc := hP.sub (ws' := [(h3, mkC h4), (h4, .inl (cJ, 4, .inr (.inl g)))]) [3, 4] rfl
          have hDc := hD.sub (ws' := [(h3, mkC h4), (h4, .inl (cJ, 4, .inr (.inl g)))]) [3, 4] (by decide) rfl
          have hFc := va_free (wc := [(h3, mkC h4), (h4, .inl (cJ, 4, .inr (.inl g)))]) hD hS hA [3, 4] rfl
          refine va_calli (va_runV (As := [.int i3]) (rest := []) ⟨hx, hb, hml, hown, ha⟩ (s_has l D cI cJ cZ cO _ h3 h4 g i3) (cwV 1 ha (gaV kl_X0_36 km_X4_has ks_X4_has kz_X4 kd_X4_has) rfl rfl rfl (by decide +kernel) ⟨Nat.le_of_ble_eq_true rfl, Nat.le_of_ble_eq_true rfl⟩) ⟨pw_blind, va_recv hK hPc (ci := 4) (q0 := 0) rfl rfl, fun U hU hW => ⟨rfl, pw_start hU hW hPc hK hDc hN⟩⟩ rfl rfl hl.1 rfl (lv_room (Nat.le_of_ble_eq_true rfl)) dX0_leastLost_20 ⟨Nat.le_of_ble_eq_true rfl, Nat.le_of_ble_eq_true rfl⟩) hS (fun q _ h => hFc q h) hFc (fun r_18 u t H1 locs ht hvm hw hB hz1 hk1 hS => ?_)
          obtain ⟨g, hX0, hP1, hK1, hD1⟩ := hB
          have hE := bd_at rfl hE
          have hE := bd_at hX0 hE
          have hE := bd_at hw.2 hE
          rw [ht] at hP1
          obtain ⟨hP, hD⟩ := va_join (wr := [(h0, boC h1 h3 bv), (h1, mkC h2), (h2, .inl (cJ, 4, .inr (.inl f)))]) (w1 := [(h3, mkC h4), (h4, .inl (cJ, 4, .inr (.inl g)))]) hP hD [3, 4] [0, 1, 2] rfl rfl (by decide) (by decide) hk1 hFc hP1 hD1
          generalize H1 = H at hP hS ⊢
          have hP : va_P D vwCl [(h0, boC h1 h3 bv), (h1, mkC h2), (h2, .inl (cJ, 4, .inr (.inl f))), (h3, mkC h4), (h4, .inl (cJ, 4, .inr (.inl g)))] H := hP
          have hD : va_D A [(h0, boC h1 h3 bv), (h1, mkC h2), (h2, .inl (cJ, 4, .inr (.inl f))), (h3, mkC h4), (h4, .inl (cJ, 4, .inr (.inl g)))] := hD
          refine W.widen (k := 0) (n := 0) (Nat.le_of_ble_eq_true rfl) (Nat.le_of_ble_eq_true rfl) ?_
          have hr_18 := hw.1
          refine lv_if_ne (tgt := 28) hx hb dX0_leastLost_23 (by decide) (fun c_20 => ?_) (fun c_20 => ?_)
          · have hE := hE.trans (if_neg c_20)
            exact J_28 bv f g _ _ hP hD hS i1 i2 i3 _ (lv_sub hl [0, 1, 2, 3] rfl) hE (Nat.lt_of_lt_of_le (sw_up c_12 rfl) (Nat.le_of_lt_succ hm_2))
          · have hE := hE.trans (if_pos c_20)
            refine lv_iload_n hx hb dX0_leastLost_26 rfl (lv_at hl 3 rfl) ?_
            rw [hQP]
            have hP9 := hP.sub (ws' := [(h0, boC h1 h3 bv), (h1, mkC h2), (h2, .inl (cJ, 4, .inr (.inl f))), (h3, mkC h4), (h4, .inl (cJ, 4, .inr (.inl g)))]) [0, 1, 2, 3, 4] rfl
            have hD9 := hD.sub (ws' := [(h0, boC h1 h3 bv), (h1, mkC h2), (h2, .inl (cJ, 4, .inr (.inl f))), (h3, mkC h4), (h4, .inl (cJ, 4, .inr (.inl g)))]) [0, 1, 2, 3, 4] (by decide) rfl
            exact W.iret (v := i3) hx hb hr (fun t ht hW => ⟨⟨i3, (), rfl, ⟨(by decide), (by rw [← hRES, hE])⟩, ⟨bv, f, g, ⟨(by rw [← hRES, hE]), (by rw [← hRES, hE]), (by rw [← hRES, hE])⟩, by rw [ht]; exact hP9, va_K.moved hW.alike hK, hD9⟩⟩, hS.F ht⟩) hS.2.2 dX0_leastLost_27
  rw [hQP] at L_2
  -- from the entry
  have hE := hRES
  unfold xc_leastLost at hE
  refine lv_iload_n hx hb dX0_leastLost_0 rfl (lv_at hl 1 rfl) ?_
  refine lv_istore_n (lv' := [(3, .int n1), (0, .ref h0), (1, .int n1), (2, .int n2)]) hx hb dX0_leastLost_1 rfl hl (by decide) rfl (fun ls hl => ?_)
  exact L_2 ((n2.toInt - n1.toInt).toNat + 1) bv f g _ _ hP hD hS n1 n2 n1 _ (lv_sub hl [1, 2, 3, 0] rfl) hE (Nat.lt_succ_self _)

set_option maxRecDepth 100000 in
def xc_pipe_69 (n1 : Int32) (n2 : Int32) (n3 : Int32) (k_6 : (Nat → Int32) → (Nat → Int64) → (Nat → Int64) → Int32 → Int32 → Int32 → Int32 → Int32 → (Nat → Int32) × (Nat → Int64) × (Nat → Int64) × Int32) (bv : Nat → Int32) (f : Nat → Int64) (g : Nat → Int64) (i1 : Int32) (i2 : Int32) (i3 : Int32) (i4 : Int32) (i5 : Int32) : (Nat → Int32) × (Nat → Int64) × (Nat → Int64) × Int32 := bd (i5 + 1) (fun v1 => k_6 bv f g i1 i2 i3 i4 v1)
set_option maxRecDepth 100000 in
def xc_pipe_42 (n1 : Int32) (n2 : Int32) (n3 : Int32) (k_6 : (Nat → Int32) → (Nat → Int64) → (Nat → Int64) → Int32 → Int32 → Int32 → Int32 → Int32 → (Nat → Int32) × (Nat → Int64) × (Nat → Int64) × Int32) (bv : Nat → Int32) (f : Nat → Int64) (g : Nat → Int64) (i1 : Int32) (i2 : Int32) (i3 : Int32) (i4 : Int32) (i5 : Int32) : (Nat → Int32) × (Nat → Int64) × (Nat → Int64) × Int32 := bd (xc_has g i5) (fun t2 => bd (t2.1) (fun g => bd (t2.2) (fun v3 => (if v3 = (0 : Int32) then xc_pipe_69 n1 n2 n3 k_6 bv f g i1 i2 i3 i4 i5 else bd (xc_has f i5) (fun t4 => bd (t4.1) (fun f => bd (t4.2) (fun v5 => (if v5 = (0 : Int32) then bd (i4 + 1) (fun v6 => xc_pipe_69 n1 n2 n3 k_6 bv f g i1 i2 i3 v6 i5) else xc_pipe_69 n1 n2 n3 k_6 bv f g i1 i2 i3 i4 i5))))))))
set_option maxRecDepth 100000 in
def xc_pipe_6 (n1 : Int32) (n2 : Int32) (n3 : Int32) : Nat → (Nat → Int32) → (Nat → Int64) → (Nat → Int64) → Int32 → Int32 → Int32 → Int32 → Int32 → (Nat → Int32) × (Nat → Int64) × (Nat → Int64) × Int32
  | 0, bv, f, g, i1, i2, i3, i4, i5 => (bv, f, g, 0)
  | fu + 1, bv, f, g, i1, i2, i3, i4, i5 => (if i3 ≤ i5 then (bv, f, g, i4) else (if i2 ≤ i5 then xc_pipe_42 n1 n2 n3 (xc_pipe_6 n1 n2 n3 fu) bv f g i1 i2 i3 i4 i5 else bd (xc_has f i5) (fun t7 => bd (t7.1) (fun f => bd (t7.2) (fun v8 => (if v8 = (0 : Int32) then bd (xc_isLost bv f g i5) (fun t9 => bd (t9.1) (fun bv => bd (t9.2.1) (fun f => bd (t9.2.2.1) (fun g => bd (t9.2.2.2) (fun v10 => (if v10 = (0 : Int32) then bd (i4 + 1) (fun v11 => xc_pipe_42 n1 n2 n3 (xc_pipe_6 n1 n2 n3 fu) bv f g i1 i2 i3 v11 i5) else xc_pipe_42 n1 n2 n3 (xc_pipe_6 n1 n2 n3 fu) bv f g i1 i2 i3 i4 i5)))))) else xc_pipe_42 n1 n2 n3 (xc_pipe_6 n1 n2 n3 fu) bv f g i1 i2 i3 i4 i5))))))
set_option maxRecDepth 100000 in
def xc_pipe (bv : Nat → Int32) (f : Nat → Int64) (g : Nat → Int64) (n1 : Int32) (n2 : Int32) (n3 : Int32) : (Nat → Int32) × (Nat → Int64) × (Nat → Int64) × Int32 := xc_pipe_6 n1 n2 n3 ((n3.toInt - n1.toInt).toNat + 1) bv f g n1 n2 n3 (0 : Int32) n1
set_option maxHeartbeats 4000000 in
set_option maxRecDepth 100000 in
theorem s_pipe (l : Launch) (D : va_G) (cI cJ cZ cO : ClassId) (sz : Nat) (h0 h1 h2 h3 h4 : Nat) (bv : Nat → Int32) (f g : Nat → Int64) (n1 n2 n3 : Int32) : Met l yX0_pipe (wa yX0_pipe cX0_pipe 6 (some .int)) ({ frames := 2, cells := 0, slots := 0, locals := 42 }) (va_Pc [.ref h0, .int n1, .int n2, .int n3] (pw_s D cI cJ cZ cO sz [(h0, boC h1 h3 bv), (h1, mkC h2), (h2, .inl (cJ, 4, .inr (.inl f))), (h3, mkC h4), (h4, .inl (cJ, 4, .inr (.inl g)))])) (va_Qi (fun (r : Int32) (_ : Unit) => ((True) ∧ r = (xc_pipe bv f g n1 n2 n3).2.2.2)) (fun (_ : Unit) (t : State) => ∃ (bv2 : Nat → Int32) (f2 g2 : Nat → Int64), (bv2 = (xc_pipe bv f g n1 n2 n3).1 ∧ f2 = (xc_pipe bv f g n1 n2 n3).2.1 ∧ g2 = (xc_pipe bv f g n1 n2 n3).2.2.1) ∧ pw_t D cI cJ cZ cO (va_A [(h0, boC h1 h3 bv), (h1, mkC h2), (h2, .inl (cJ, 4, .inr (.inl f))), (h3, mkC h4), (h4, .inl (cJ, 4, .inr (.inl g)))] sz) [(h0, boC h1 h3 bv2), (h1, mkC h2), (h2, .inl (cJ, 4, .inr (.inl f2))), (h3, mkC h4), (h4, .inl (cJ, 4, .inr (.inl g2)))] t) (va_A [(h0, boC h1 h3 bv), (h1, mkC h2), (h2, .inl (cJ, 4, .inr (.inl f))), (h3, mkC h4), (h4, .inl (cJ, 4, .inr (.inl g)))] sz)) 0 0 (va_A [(h0, boC h1 h3 bv), (h1, mkC h2), (h2, .inl (cJ, 4, .inr (.inl f))), (h3, mkC h4), (h4, .inl (cJ, 4, .inr (.inl g)))] sz) := by
  refine Met.ofW (cc := cX0_pipe) (maxL := 6) (ret := (some .int)) (by decide) rfl ?_
  intro p e s m args below meth c s₁ B hml hv
  obtain ⟨rfl, hsz, hP, hK, hD0, hN⟩ := hv
  have hx := B.exec
  have hb := B.bytes
  have hr := B.returns
  have hts := atoms_spec (ws := (wa yX0_pipe cX0_pipe 6 (some .int))) B.pre
  have ha : ∀ w ∈ wsL_law, w.before _ s = true := fun w h => hts w (List.mem_cons_of_mem _ h)
  have hown : s.vm.findClass RX0 = some m.cls := findClass_of_methodNamed B.named
  have hlocks := B.notSynchronized
  subst hsz
  have hD := hD0.self (sz := s.heap.size)
  generalize hAe : va_A [(h0, boC h1 h3 bv), (h1, mkC h2), (h2, .inl (cJ, 4, .inr (.inl f))), (h3, mkC h4), (h4, .inl (cJ, 4, .inr (.inl g)))] s.heap.size = A at hD ⊢
  have hA : ∀ q : Nat, s.heap.size ≤ q → A q := fun q h => by rw [← hAe]; exact Or.inr h
  have hS : va_S A s.heap s.heap [] := va_S.rf
  have hP : va_P D vwCl [(h0, boC h1 h3 bv), (h1, mkC h2), (h2, .inl (cJ, 4, .inr (.inl f))), (h3, mkC h4), (h4, .inl (cJ, 4, .inr (.inl g)))] s.heap := hP
  have hl := lv_entry ([.ref h0, .int n1, .int n2, .int n3]) (n := 6) (Nat.le_of_ble_eq_true rfl)
  rw [lg_entry_eq]
  generalize (lg_sl ([.ref h0, .int n1, .int n2, .int n3]) ++ List.replicate (6 - (lg_sl ([.ref h0, .int n1, .int n2, .int n3])).length) Slot.unset).toArray = ls at hl ⊢
  have hl : lv_has ls 6 [(0, .ref h0), (1, .int n1), (2, .int n2), (3, .int n3)] := hl
  obtain ⟨QP, hQP⟩ : ∃ y : State → Prop, y = (MQ below (va_Qi (fun (r : Int32) (_ : Unit) => ((True) ∧ r = (xc_pipe bv f g n1 n2 n3).2.2.2)) (fun (_ : Unit) (t : State) => ∃ (bv2 : Nat → Int32) (f2 g2 : Nat → Int64), (bv2 = (xc_pipe bv f g n1 n2 n3).1 ∧ f2 = (xc_pipe bv f g n1 n2 n3).2.1 ∧ g2 = (xc_pipe bv f g n1 n2 n3).2.2.1) ∧ pw_t D cI cJ cZ cO A [(h0, boC h1 h3 bv2), (h1, mkC h2), (h2, .inl (cJ, 4, .inr (.inl f2))), (h3, mkC h4), (h4, .inl (cJ, 4, .inr (.inl g2)))] t) A) #[(.ref h0 : Value), (.int n1 : Value), (.int n2 : Value), (.int n3 : Value)] s 0 0 A) := ⟨_, rfl⟩
  obtain ⟨RES, hRES⟩ : ∃ y, y = (xc_pipe bv f g n1 n2 n3) := ⟨_, rfl⟩
  have L_6 : ∀ (n_6 : Nat), ∀ (bv : Nat → Int32) (f : Nat → Int64) (g : Nat → Int64) (H : Heap) (locs : List Loc), va_P D vwCl [(h0, boC h1 h3 bv), (h1, mkC h2), (h2, .inl (cJ, 4, .inr (.inl f))), (h3, mkC h4), (h4, .inl (cJ, 4, .inr (.inl g)))] H → va_D A [(h0, boC h1 h3 bv), (h1, mkC h2), (h2, .inl (cJ, 4, .inr (.inl f))), (h3, mkC h4), (h4, .inl (cJ, 4, .inr (.inl g)))] → va_S A s.heap H locs → ∀ (i1 : Int32) (i2 : Int32) (i3 : Int32) (i4 : Int32) (i5 : Int32) (ls : Array Slot), lv_has ls 6 [(0, .ref h0), (1, .int i1), (2, .int i2), (3, .int i3), (4, .int i4), (5, .int i5)] → RES = xc_pipe_6 n1 n2 n3 n_6 bv f g i1 i2 i3 i4 i5 →  (i3.toInt - i5.toInt).toNat < n_6 → W p l e ({ frames := 2, cells := 0, slots := 0, locals := 42 }) s m #[(.ref h0 : Value), (.int n1 : Value), (.int n2 : Value), (.int n3 : Value)] below meth c H locs 0 0 QP (F0 m 6 ls []) := by
    intro n_6
    induction n_6 with
    | zero => intro bv f g H locs hP hD hS i1 i2 i3 i4 i5 ls hl hE hm; exact absurd hm (Nat.not_lt_zero _)
    | succ n_6 ih_6 =>
      have J_69 : ∀ (bv : Nat → Int32) (f : Nat → Int64) (g : Nat → Int64) (H : Heap) (locs : List Loc), va_P D vwCl [(h0, boC h1 h3 bv), (h1, mkC h2), (h2, .inl (cJ, 4, .inr (.inl f))), (h3, mkC h4), (h4, .inl (cJ, 4, .inr (.inl g)))] H → va_D A [(h0, boC h1 h3 bv), (h1, mkC h2), (h2, .inl (cJ, 4, .inr (.inl f))), (h3, mkC h4), (h4, .inl (cJ, 4, .inr (.inl g)))] → va_S A s.heap H locs → ∀ (i1 : Int32) (i2 : Int32) (i3 : Int32) (i4 : Int32) (i5 : Int32) (ls : Array Slot), lv_has ls 6 [(0, .ref h0), (1, .int i1), (2, .int i2), (3, .int i3), (4, .int i4), (5, .int i5)] → RES = xc_pipe_69 n1 n2 n3 (xc_pipe_6 n1 n2 n3 n_6) bv f g i1 i2 i3 i4 i5 → (i3.toInt - (i5 + 1).toInt).toNat < n_6 → W p l e ({ frames := 2, cells := 0, slots := 0, locals := 42 }) s m #[(.ref h0 : Value), (.int n1 : Value), (.int n2 : Value), (.int n3 : Value)] below meth c H locs 0 0 QP (F0 m 69 ls []) := by
        intro bv f g H locs hP hD hS i1 i2 i3 i4 i5 ls hl hE hq_6
        unfold xc_pipe_69 at hE
        obtain ⟨x_20, ex_20⟩ : ∃ y : Int32, y = i5 + 1 := ⟨_, rfl⟩
        have hE := bd_at ex_20 hE
        refine lv_iinc (v := x_20) (lv' := [(5, .int x_20), (0, .ref h0), (1, .int i1), (2, .int i2), (3, .int i3), (4, .int i4)]) hx hb dX0_pipe_69 hl (k := 5) rfl (by rw [ex_20]; rfl) (by decide) rfl (fun ls hl => ?_)
        refine lv_goto (tgt := 6) hx hb dX0_pipe_72 (by decide) ?_
        exact ih_6 bv f g _ _ hP hD hS i1 i2 i3 i4 x_20 _ (lv_sub hl [1, 2, 3, 4, 5, 0] rfl) hE (by rw [ex_20]; exact hq_6)
      have J_42 : ∀ (bv : Nat → Int32) (f : Nat → Int64) (g : Nat → Int64) (H : Heap) (locs : List Loc), va_P D vwCl [(h0, boC h1 h3 bv), (h1, mkC h2), (h2, .inl (cJ, 4, .inr (.inl f))), (h3, mkC h4), (h4, .inl (cJ, 4, .inr (.inl g)))] H → va_D A [(h0, boC h1 h3 bv), (h1, mkC h2), (h2, .inl (cJ, 4, .inr (.inl f))), (h3, mkC h4), (h4, .inl (cJ, 4, .inr (.inl g)))] → va_S A s.heap H locs → ∀ (i1 : Int32) (i2 : Int32) (i3 : Int32) (i4 : Int32) (i5 : Int32) (ls : Array Slot), lv_has ls 6 [(0, .ref h0), (1, .int i1), (2, .int i2), (3, .int i3), (4, .int i4), (5, .int i5)] → RES = xc_pipe_42 n1 n2 n3 (xc_pipe_6 n1 n2 n3 n_6) bv f g i1 i2 i3 i4 i5 → (i3.toInt - (i5 + 1).toInt).toNat < n_6 → W p l e ({ frames := 2, cells := 0, slots := 0, locals := 42 }) s m #[(.ref h0 : Value), (.int n1 : Value), (.int n2 : Value), (.int n3 : Value)] below meth c H locs 0 0 QP (F0 m 42 ls []) := by
        intro bv f g H locs hP hD hS i1 i2 i3 i4 i5 ls hl hE hq_6
        unfold xc_pipe_42 at hE
        refine lv_aload_n hx hb dX0_pipe_42 rfl (lv_at hl 0 rfl) ?_
        refine va_get (D := D) (ci := 0) (v := .ref h3) (C := RX0) (T := TX0) (N := 4) hx hb ha inlX0 hown hK hP 0 rfl rfl 1 (by decide) (ha _ kf_X0_18) (fun _ h9 => h9) rfl dX0_pipe_43 ?_
        refine lv_iload hx hb dX0_pipe_46 (lv_at hl 5 rfl) ?_
        have hPc := hP.sub (ws' := [(h3, mkC h4), (h4, .inl (cJ, 4, .inr (.inl g)))]) [3, 4] rfl
        have hDc := hD.sub (ws' := [(h3, mkC h4), (h4, .inl (cJ, 4, .inr (.inl g)))]) [3, 4] (by decide) rfl
        have hFc := va_free (wc := [(h3, mkC h4), (h4, .inl (cJ, 4, .inr (.inl g)))]) hD hS hA [3, 4] rfl
        refine va_calli (va_runV (As := [.int i5]) (rest := []) ⟨hx, hb, hml, hown, ha⟩ (s_has l D cI cJ cZ cO _ h3 h4 g i5) (cwV 1 ha (gaV kl_X0_36 km_X4_has ks_X4_has kz_X4 kd_X4_has) rfl rfl rfl (by decide +kernel) ⟨Nat.le_of_ble_eq_true rfl, Nat.le_of_ble_eq_true rfl⟩) ⟨pw_blind, va_recv hK hPc (ci := 4) (q0 := 0) rfl rfl, fun U hU hW => ⟨rfl, pw_start hU hW hPc hK hDc hN⟩⟩ rfl rfl hl.1 rfl (lv_room (Nat.le_of_ble_eq_true rfl)) dX0_pipe_48 ⟨Nat.le_of_ble_eq_true rfl, Nat.le_of_ble_eq_true rfl⟩) hS (fun q _ h => hFc q h) hFc (fun r_21 u t H1 locs ht hvm hw hB hz1 hk1 hS => ?_)
        obtain ⟨g, hX0, hP1, hK1, hD1⟩ := hB
        have hE := bd_at rfl hE
        have hE := bd_at hX0 hE
        have hE := bd_at hw.2 hE
        rw [ht] at hP1
        obtain ⟨hP, hD⟩ := va_join (wr := [(h0, boC h1 h3 bv), (h1, mkC h2), (h2, .inl (cJ, 4, .inr (.inl f)))]) (w1 := [(h3, mkC h4), (h4, .inl (cJ, 4, .inr (.inl g)))]) hP hD [3, 4] [0, 1, 2] rfl rfl (by decide) (by decide) hk1 hFc hP1 hD1
        generalize H1 = H at hP hS ⊢
        have hP : va_P D vwCl [(h0, boC h1 h3 bv), (h1, mkC h2), (h2, .inl (cJ, 4, .inr (.inl f))), (h3, mkC h4), (h4, .inl (cJ, 4, .inr (.inl g)))] H := hP
        have hD : va_D A [(h0, boC h1 h3 bv), (h1, mkC h2), (h2, .inl (cJ, 4, .inr (.inl f))), (h3, mkC h4), (h4, .inl (cJ, 4, .inr (.inl g)))] := hD
        refine W.widen (k := 0) (n := 0) (Nat.le_of_ble_eq_true rfl) (Nat.le_of_ble_eq_true rfl) ?_
        have hr_21 := hw.1
        refine lv_if_eq (tgt := 69) hx hb dX0_pipe_51 (by decide) (fun c_23 => ?_) (fun c_23 => ?_)
        · have hE := hE.trans (if_pos c_23)
          exact J_69 bv f g _ _ hP hD hS i1 i2 i3 i4 i5 _ (lv_sub hl [0, 1, 2, 3, 4, 5] rfl) hE hq_6
        · have hE := hE.trans (if_neg c_23)
          refine lv_aload_n hx hb dX0_pipe_54 rfl (lv_at hl 0 rfl) ?_
          refine va_get (D := D) (ci := 0) (v := .ref h1) (C := RX0) (T := TX0) (N := 4) hx hb ha inlX0 hown hK hP 0 rfl rfl 0 (by decide) (ha _ kf_X0_12) (fun _ h9 => h9) rfl dX0_pipe_55 ?_
          refine lv_iload hx hb dX0_pipe_58 (lv_at hl 5 rfl) ?_
          have hPc := hP.sub (ws' := [(h1, mkC h2), (h2, .inl (cJ, 4, .inr (.inl f)))]) [1, 2] rfl
          have hDc := hD.sub (ws' := [(h1, mkC h2), (h2, .inl (cJ, 4, .inr (.inl f)))]) [1, 2] (by decide) rfl
          have hFc := va_free (wc := [(h1, mkC h2), (h2, .inl (cJ, 4, .inr (.inl f)))]) hD hS hA [1, 2] rfl
          refine va_calli (va_runV (As := [.int i5]) (rest := []) ⟨hx, hb, hml, hown, ha⟩ (s_has l D cI cJ cZ cO _ h1 h2 f i5) (cwV 1 ha (gaV kl_X0_36 km_X4_has ks_X4_has kz_X4 kd_X4_has) rfl rfl rfl (by decide +kernel) ⟨Nat.le_of_ble_eq_true rfl, Nat.le_of_ble_eq_true rfl⟩) ⟨pw_blind, va_recv hK hPc (ci := 4) (q0 := 0) rfl rfl, fun U hU hW => ⟨rfl, pw_start hU hW hPc hK hDc hN⟩⟩ rfl rfl hl.1 rfl (lv_room (Nat.le_of_ble_eq_true rfl)) dX0_pipe_60 ⟨Nat.le_of_ble_eq_true rfl, Nat.le_of_ble_eq_true rfl⟩) hS (fun q _ h => hFc q h) hFc (fun r_24 u t H1 locs ht hvm hw hB hz1 hk1 hS => ?_)
          obtain ⟨f, hX0, hP1, hK1, hD1⟩ := hB
          have hE := bd_at rfl hE
          have hE := bd_at hX0 hE
          have hE := bd_at hw.2 hE
          rw [ht] at hP1
          obtain ⟨hP, hD⟩ := va_join (wr := [(h0, boC h1 h3 bv), (h3, mkC h4), (h4, .inl (cJ, 4, .inr (.inl g)))]) (w1 := [(h1, mkC h2), (h2, .inl (cJ, 4, .inr (.inl f)))]) hP hD [1, 2] [0, 3, 4] rfl rfl (by decide) (by decide) hk1 hFc hP1 hD1
          generalize H1 = H at hP hS ⊢
          have hP : va_P D vwCl [(h0, boC h1 h3 bv), (h3, mkC h4), (h4, .inl (cJ, 4, .inr (.inl g))), (h1, mkC h2), (h2, .inl (cJ, 4, .inr (.inl f)))] H := hP
          have hD : va_D A [(h0, boC h1 h3 bv), (h3, mkC h4), (h4, .inl (cJ, 4, .inr (.inl g))), (h1, mkC h2), (h2, .inl (cJ, 4, .inr (.inl f)))] := hD
          refine W.widen (k := 0) (n := 0) (Nat.le_of_ble_eq_true rfl) (Nat.le_of_ble_eq_true rfl) ?_
          have hr_24 := hw.1
          refine lv_if_ne (tgt := 69) hx hb dX0_pipe_63 (by decide) (fun c_26 => ?_) (fun c_26 => ?_)
          · have hE := hE.trans (if_neg c_26)
            exact J_69 bv f g _ _ (hP.sub (ws' := [(h0, boC h1 h3 bv), (h1, mkC h2), (h2, .inl (cJ, 4, .inr (.inl f))), (h3, mkC h4), (h4, .inl (cJ, 4, .inr (.inl g)))]) [0, 3, 4, 1, 2] rfl) (hD.sub (ws' := [(h0, boC h1 h3 bv), (h1, mkC h2), (h2, .inl (cJ, 4, .inr (.inl f))), (h3, mkC h4), (h4, .inl (cJ, 4, .inr (.inl g)))]) [0, 3, 4, 1, 2] (by decide) rfl) hS i1 i2 i3 i4 i5 _ (lv_sub hl [0, 1, 2, 3, 4, 5] rfl) hE hq_6
          · have hE := hE.trans (if_pos c_26)
            obtain ⟨x_27, ex_27⟩ : ∃ y : Int32, y = i4 + 1 := ⟨_, rfl⟩
            have hE := bd_at ex_27 hE
            refine lv_iinc (v := x_27) (lv' := [(4, .int x_27), (0, .ref h0), (1, .int i1), (2, .int i2), (3, .int i3), (5, .int i5)]) hx hb dX0_pipe_66 hl (k := 4) rfl (by rw [ex_27]; rfl) (by decide) rfl (fun ls hl => ?_)
            exact J_69 bv f g _ _ (hP.sub (ws' := [(h0, boC h1 h3 bv), (h1, mkC h2), (h2, .inl (cJ, 4, .inr (.inl f))), (h3, mkC h4), (h4, .inl (cJ, 4, .inr (.inl g)))]) [0, 3, 4, 1, 2] rfl) (hD.sub (ws' := [(h0, boC h1 h3 bv), (h1, mkC h2), (h2, .inl (cJ, 4, .inr (.inl f))), (h3, mkC h4), (h4, .inl (cJ, 4, .inr (.inl g)))]) [0, 3, 4, 1, 2] (by decide) rfl) hS i1 i2 i3 x_27 i5 _ (lv_sub hl [1, 2, 3, 4, 0, 5] rfl) hE hq_6
      intro bv f g H locs hP hD hS i1 i2 i3 i4 i5 ls hl hE hm_6
      rw [xc_pipe_6] at hE
      refine lv_iload hx hb dX0_pipe_6 (lv_at hl 5 rfl) ?_
      refine lv_iload_n hx hb dX0_pipe_8 rfl (lv_at hl 3 rfl) ?_
      refine lv_icmp_ge (tgt := 75) hx hb dX0_pipe_9 (by decide) (fun c_28 => ?_) (fun c_28 => ?_)
      · have hE := hE.trans (if_pos c_28)
        refine lv_iload hx hb dX0_pipe_75 (lv_at hl 4 rfl) ?_
        rw [hQP]
        have hP9 := hP.sub (ws' := [(h0, boC h1 h3 bv), (h1, mkC h2), (h2, .inl (cJ, 4, .inr (.inl f))), (h3, mkC h4), (h4, .inl (cJ, 4, .inr (.inl g)))]) [0, 1, 2, 3, 4] rfl
        have hD9 := hD.sub (ws' := [(h0, boC h1 h3 bv), (h1, mkC h2), (h2, .inl (cJ, 4, .inr (.inl f))), (h3, mkC h4), (h4, .inl (cJ, 4, .inr (.inl g)))]) [0, 1, 2, 3, 4] (by decide) rfl
        exact W.iret (v := i4) hx hb hr (fun t ht hW => ⟨⟨i4, (), rfl, ⟨(by decide), (by rw [← hRES, hE])⟩, ⟨bv, f, g, ⟨(by rw [← hRES, hE]), (by rw [← hRES, hE]), (by rw [← hRES, hE])⟩, by rw [ht]; exact hP9, va_K.moved hW.alike hK, hD9⟩⟩, hS.F ht⟩) hS.2.2 dX0_pipe_77
      · have hE := hE.trans (if_neg c_28)
        refine lv_iload hx hb dX0_pipe_12 (lv_at hl 5 rfl) ?_
        refine lv_iload_n hx hb dX0_pipe_14 rfl (lv_at hl 2 rfl) ?_
        refine lv_icmp_ge (tgt := 42) hx hb dX0_pipe_15 (by decide) (fun c_29 => ?_) (fun c_29 => ?_)
        · have hE := hE.trans (if_pos c_29)
          exact J_42 bv f g _ _ hP hD hS i1 i2 i3 i4 i5 _ (lv_sub hl [0, 1, 2, 3, 4, 5] rfl) hE (Nat.lt_of_lt_of_le (sw_up c_28 rfl) (Nat.le_of_lt_succ hm_6))
        · have hE := hE.trans (if_neg c_29)
          refine lv_aload_n hx hb dX0_pipe_18 rfl (lv_at hl 0 rfl) ?_
          refine va_get (D := D) (ci := 0) (v := .ref h1) (C := RX0) (T := TX0) (N := 4) hx hb ha inlX0 hown hK hP 0 rfl rfl 0 (by decide) (ha _ kf_X0_12) (fun _ h9 => h9) rfl dX0_pipe_19 ?_
          refine lv_iload hx hb dX0_pipe_22 (lv_at hl 5 rfl) ?_
          have hPc := hP.sub (ws' := [(h1, mkC h2), (h2, .inl (cJ, 4, .inr (.inl f)))]) [1, 2] rfl
          have hDc := hD.sub (ws' := [(h1, mkC h2), (h2, .inl (cJ, 4, .inr (.inl f)))]) [1, 2] (by decide) rfl
          have hFc := va_free (wc := [(h1, mkC h2), (h2, .inl (cJ, 4, .inr (.inl f)))]) hD hS hA [1, 2] rfl
          refine va_calli (va_runV (As := [.int i5]) (rest := []) ⟨hx, hb, hml, hown, ha⟩ (s_has l D cI cJ cZ cO _ h1 h2 f i5) (cwV 1 ha (gaV kl_X0_36 km_X4_has ks_X4_has kz_X4 kd_X4_has) rfl rfl rfl (by decide +kernel) ⟨Nat.le_of_ble_eq_true rfl, Nat.le_of_ble_eq_true rfl⟩) ⟨pw_blind, va_recv hK hPc (ci := 4) (q0 := 0) rfl rfl, fun U hU hW => ⟨rfl, pw_start hU hW hPc hK hDc hN⟩⟩ rfl rfl hl.1 rfl (lv_room (Nat.le_of_ble_eq_true rfl)) dX0_pipe_24 ⟨Nat.le_of_ble_eq_true rfl, Nat.le_of_ble_eq_true rfl⟩) hS (fun q _ h => hFc q h) hFc (fun r_30 u t H1 locs ht hvm hw hB hz1 hk1 hS => ?_)
          obtain ⟨f, hX0, hP1, hK1, hD1⟩ := hB
          have hE := bd_at rfl hE
          have hE := bd_at hX0 hE
          have hE := bd_at hw.2 hE
          rw [ht] at hP1
          obtain ⟨hP, hD⟩ := va_join (wr := [(h0, boC h1 h3 bv), (h3, mkC h4), (h4, .inl (cJ, 4, .inr (.inl g)))]) (w1 := [(h1, mkC h2), (h2, .inl (cJ, 4, .inr (.inl f)))]) hP hD [1, 2] [0, 3, 4] rfl rfl (by decide) (by decide) hk1 hFc hP1 hD1
          generalize H1 = H at hP hS ⊢
          have hP : va_P D vwCl [(h0, boC h1 h3 bv), (h3, mkC h4), (h4, .inl (cJ, 4, .inr (.inl g))), (h1, mkC h2), (h2, .inl (cJ, 4, .inr (.inl f)))] H := hP
          have hD : va_D A [(h0, boC h1 h3 bv), (h3, mkC h4), (h4, .inl (cJ, 4, .inr (.inl g))), (h1, mkC h2), (h2, .inl (cJ, 4, .inr (.inl f)))] := hD
          refine W.widen (k := 0) (n := 0) (Nat.le_of_ble_eq_true rfl) (Nat.le_of_ble_eq_true rfl) ?_
          have hr_30 := hw.1
          refine lv_if_ne (tgt := 42) hx hb dX0_pipe_27 (by decide) (fun c_32 => ?_) (fun c_32 => ?_)
          · have hE := hE.trans (if_neg c_32)
            exact J_42 bv f g _ _ (hP.sub (ws' := [(h0, boC h1 h3 bv), (h1, mkC h2), (h2, .inl (cJ, 4, .inr (.inl f))), (h3, mkC h4), (h4, .inl (cJ, 4, .inr (.inl g)))]) [0, 3, 4, 1, 2] rfl) (hD.sub (ws' := [(h0, boC h1 h3 bv), (h1, mkC h2), (h2, .inl (cJ, 4, .inr (.inl f))), (h3, mkC h4), (h4, .inl (cJ, 4, .inr (.inl g)))]) [0, 3, 4, 1, 2] (by decide) rfl) hS i1 i2 i3 i4 i5 _ (lv_sub hl [0, 1, 2, 3, 4, 5] rfl) hE (Nat.lt_of_lt_of_le (sw_up c_28 rfl) (Nat.le_of_lt_succ hm_6))
          · have hE := hE.trans (if_pos c_32)
            refine lv_aload_n hx hb dX0_pipe_30 rfl (lv_at hl 0 rfl) ?_
            refine lv_iload hx hb dX0_pipe_31 (lv_at hl 5 rfl) ?_
            have hPc := hP.sub (ws' := [(h0, boC h1 h3 bv), (h1, mkC h2), (h2, .inl (cJ, 4, .inr (.inl f))), (h3, mkC h4), (h4, .inl (cJ, 4, .inr (.inl g)))]) [0, 3, 4, 1, 2] rfl
            have hDc := hD.sub (ws' := [(h0, boC h1 h3 bv), (h1, mkC h2), (h2, .inl (cJ, 4, .inr (.inl f))), (h3, mkC h4), (h4, .inl (cJ, 4, .inr (.inl g)))]) [0, 3, 4, 1, 2] (by decide) rfl
            have hFc := va_free (wc := [(h0, boC h1 h3 bv), (h1, mkC h2), (h2, .inl (cJ, 4, .inr (.inl f))), (h3, mkC h4), (h4, .inl (cJ, 4, .inr (.inl g)))]) hD hS hA [0, 3, 4, 1, 2] rfl
            refine va_calli (va_runV (As := [.int i5]) (rest := []) ⟨hx, hb, hml, hown, ha⟩ (s_isLost l D cI cJ cZ cO _ h0 h1 h2 h3 h4 bv f g i5) (cwV 1 ha (gaV kl_X0_47 km_X0_isLost ks_X0_isLost kz_X0 kd_X0_isLost) rfl rfl rfl (by decide +kernel) ⟨Nat.le_of_ble_eq_true rfl, Nat.le_of_ble_eq_true rfl⟩) ⟨pw_blind, va_recv hK hPc (ci := 0) (q0 := 0) rfl rfl, fun U hU hW => ⟨rfl, pw_start hU hW hPc hK hDc hN⟩⟩ rfl rfl hl.1 rfl (lv_room (Nat.le_of_ble_eq_true rfl)) dX0_pipe_33 ⟨Nat.le_of_ble_eq_true rfl, Nat.le_of_ble_eq_true rfl⟩) hS (fun q _ h => hFc q h) hFc (fun r_33 u t H1 locs ht hvm hw hB hz1 hk1 hS => ?_)
            obtain ⟨bv, f, g, ⟨hX0, hX1, hX2⟩, hP1, hK1, hD1⟩ := hB
            have hE := bd_at rfl hE
            have hE := bd_at hX0 hE
            have hE := bd_at hX1 hE
            have hE := bd_at hX2 hE
            have hE := bd_at hw.2 hE
            rw [ht] at hP1
            obtain ⟨hP, hD⟩ := va_join (wr := []) (w1 := [(h0, boC h1 h3 bv), (h1, mkC h2), (h2, .inl (cJ, 4, .inr (.inl f))), (h3, mkC h4), (h4, .inl (cJ, 4, .inr (.inl g)))]) hP hD [0, 3, 4, 1, 2] [] rfl rfl (by decide) (by decide) hk1 hFc hP1 hD1
            generalize H1 = H at hP hS ⊢
            have hP : va_P D vwCl [(h0, boC h1 h3 bv), (h1, mkC h2), (h2, .inl (cJ, 4, .inr (.inl f))), (h3, mkC h4), (h4, .inl (cJ, 4, .inr (.inl g)))] H := hP
            have hD : va_D A [(h0, boC h1 h3 bv), (h1, mkC h2), (h2, .inl (cJ, 4, .inr (.inl f))), (h3, mkC h4), (h4, .inl (cJ, 4, .inr (.inl g)))] := hD
            refine W.widen (k := 0) (n := 0) (Nat.le_of_ble_eq_true rfl) (Nat.le_of_ble_eq_true rfl) ?_
            have hr_33 := hw.1
            refine lv_if_ne (tgt := 42) hx hb dX0_pipe_36 (by decide) (fun c_37 => ?_) (fun c_37 => ?_)
            · have hE := hE.trans (if_neg c_37)
              exact J_42 bv f g _ _ hP hD hS i1 i2 i3 i4 i5 _ (lv_sub hl [0, 1, 2, 3, 4, 5] rfl) hE (Nat.lt_of_lt_of_le (sw_up c_28 rfl) (Nat.le_of_lt_succ hm_6))
            · have hE := hE.trans (if_pos c_37)
              obtain ⟨x_38, ex_38⟩ : ∃ y : Int32, y = i4 + 1 := ⟨_, rfl⟩
              have hE := bd_at ex_38 hE
              refine lv_iinc (v := x_38) (lv' := [(4, .int x_38), (0, .ref h0), (1, .int i1), (2, .int i2), (3, .int i3), (5, .int i5)]) hx hb dX0_pipe_39 hl (k := 4) rfl (by rw [ex_38]; rfl) (by decide) rfl (fun ls hl => ?_)
              exact J_42 bv f g _ _ hP hD hS i1 i2 i3 x_38 i5 _ (lv_sub hl [1, 2, 3, 4, 0, 5] rfl) hE (Nat.lt_of_lt_of_le (sw_up c_28 rfl) (Nat.le_of_lt_succ hm_6))
  rw [hQP] at L_6
  -- from the entry
  have hE := hRES
  unfold xc_pipe at hE
  refine lv_iconst (v := 0) hx hb dX0_pipe_0 (by decide) ?_
  refine lv_istore (lv' := [(4, .int 0), (0, .ref h0), (1, .int n1), (2, .int n2), (3, .int n3)]) hx hb dX0_pipe_1 hl (by decide) rfl (fun ls hl => ?_)
  refine lv_iload_n hx hb dX0_pipe_3 rfl (lv_at hl 2 rfl) ?_
  refine lv_istore (lv' := [(5, .int n1), (4, .int 0), (0, .ref h0), (1, .int n1), (2, .int n2), (3, .int n3)]) hx hb dX0_pipe_4 hl (by decide) rfl (fun ls hl => ?_)
  exact L_6 ((n3.toInt - n1.toInt).toNat + 1) bv f g _ _ hP hD hS n1 n2 n3 0 n1 _ (lv_sub hl [2, 3, 4, 5, 1, 0] rfl) hE (Nat.lt_succ_self _)

set_option maxRecDepth 100000 in
def xc_blearn_74 (n1 : Int32) (n2 : Int32) (k_21 : (Nat → Int32) → (Nat → Int64) → (Nat → Int64) → (Nat → Int64) → Int32 → Int32 → Int32 → Int32 → (Nat → Int32) × (Nat → Int64) × (Nat → Int64) × (Nat → Int64)) (bv : Nat → Int32) (f : Nat → Int64) (g : Nat → Int64) (ur : Nat → Int64) (i2 : Int32) (i3 : Int32) (i4 : Int32) (i5 : Int32) : (Nat → Int32) × (Nat → Int64) × (Nat → Int64) × (Nat → Int64) := bd (i5 + (-1)) (fun v1 => k_21 bv f g ur i2 i3 i4 v1)
set_option maxRecDepth 100000 in
def xc_blearn_71 (n1 : Int32) (n2 : Int32) (k_21 : (Nat → Int32) → (Nat → Int64) → (Nat → Int64) → (Nat → Int64) → Int32 → Int32 → Int32 → Int32 → (Nat → Int32) × (Nat → Int64) × (Nat → Int64) × (Nat → Int64)) (bv : Nat → Int32) (f : Nat → Int64) (g : Nat → Int64) (ur : Nat → Int64) (i2 : Int32) (i3 : Int32) (i4 : Int32) (i5 : Int32) (s0 : Int32) : (Nat → Int32) × (Nat → Int64) × (Nat → Int64) × (Nat → Int64) := bd (upd bv 2 s0) (fun bv => xc_blearn_74 n1 n2 k_21 bv f g ur i2 i3 i4 i5)
set_option maxRecDepth 100000 in
def xc_blearn_21 (n1 : Int32) (n2 : Int32) : Nat → (Nat → Int32) → (Nat → Int64) → (Nat → Int64) → (Nat → Int64) → Int32 → Int32 → Int32 → Int32 → (Nat → Int32) × (Nat → Int64) × (Nat → Int64) × (Nat → Int64)
  | 0, bv, f, g, ur, i2, i3, i4, i5 => (bv, f, g, ur)
  | fu + 1, bv, f, g, ur, i2, i3, i4, i5 => (if i5 ≤ i2 then (bv, f, g, ur) else (if (3 : Int32) ≤ i4 then (bv, f, g, ur) else bd (xc_isEmpty f) (fun t2 => bd (t2.1) (fun f => bd (t2.2) (fun v3 => (if v3 = (0 : Int32) then bd (xc_has f i5) (fun t4 => bd (t4.1) (fun f => bd (t4.2) (fun v5 => (if v5 = (0 : Int32) then xc_blearn_74 n1 n2 (xc_blearn_21 n1 n2 fu) bv f g ur i2 i3 i4 i5 else bd (i4 + 1) (fun v6 => (if v6 = (3 : Int32) then xc_blearn_71 n1 n2 (xc_blearn_21 n1 n2 fu) bv f g ur i2 i3 v6 i5 i5 else xc_blearn_71 n1 n2 (xc_blearn_21 n1 n2 fu) bv f g ur i2 i3 v6 i5 (0 : Int32))))))) else (bv, f, g, ur)))))))
set_option maxRecDepth 100000 in
def xc_blearn (bv : Nat → Int32) (f : Nat → Int64) (g : Nat → Int64) (ur : Nat → Int64) (n1 : Int32) (n2 : Int32) : (Nat → Int32) × (Nat → Int64) × (Nat → Int64) × (Nat → Int64) := bd (xc_readFrom f ur) (fun t7 => bd (t7.1) (fun f => bd (t7.2) (fun ur => bd (upd bv 2 (0 : Int32)) (fun bv => bd (n2 - (1 : Int32)) (fun v8 => xc_blearn_21 n1 n2 ((v8.toInt - n1.toInt).toNat + 1) bv f g ur n1 n2 (0 : Int32) v8)))))
set_option maxHeartbeats 4000000 in
set_option maxRecDepth 100000 in
theorem s_blearn (l : Launch) (D : va_G) (cI cJ cZ cO : ClassId) (sz : Nat) (h0 h1 h2 h3 h4 h5 : Nat) (bv : Nat → Int32) (f g ur : Nat → Int64) (n1 n2 : Int32) : Met l yX0_learn (wa yX0_learn cX0_learn 6 none) ({ frames := 1, cells := 0, slots := 0, locals := 22 }) (va_Pc [.ref h0, .ref h5, .int n1, .int n2] (pw_s D cI cJ cZ cO sz [(h0, boC h1 h3 bv), (h1, mkC h2), (h2, .inl (cJ, 4, .inr (.inl f))), (h3, mkC h4), (h4, .inl (cJ, 4, .inr (.inl g))), (h5, .inl (cJ, 4, .inr (.inl ur)))])) (va_Qv (fun (_ : Unit) => True) (fun (_ : Unit) (t : State) => ∃ (bv2 : Nat → Int32) (f2 g2 ur2 : Nat → Int64), (bv2 = (xc_blearn bv f g ur n1 n2).1 ∧ f2 = (xc_blearn bv f g ur n1 n2).2.1 ∧ g2 = (xc_blearn bv f g ur n1 n2).2.2.1 ∧ ur2 = (xc_blearn bv f g ur n1 n2).2.2.2) ∧ pw_t D cI cJ cZ cO (va_A [(h0, boC h1 h3 bv), (h1, mkC h2), (h2, .inl (cJ, 4, .inr (.inl f))), (h3, mkC h4), (h4, .inl (cJ, 4, .inr (.inl g))), (h5, .inl (cJ, 4, .inr (.inl ur)))] sz) [(h0, boC h1 h3 bv2), (h1, mkC h2), (h2, .inl (cJ, 4, .inr (.inl f2))), (h3, mkC h4), (h4, .inl (cJ, 4, .inr (.inl g2))), (h5, .inl (cJ, 4, .inr (.inl ur2)))] t) (va_A [(h0, boC h1 h3 bv), (h1, mkC h2), (h2, .inl (cJ, 4, .inr (.inl f))), (h3, mkC h4), (h4, .inl (cJ, 4, .inr (.inl g))), (h5, .inl (cJ, 4, .inr (.inl ur)))] sz)) 0 0 (va_A [(h0, boC h1 h3 bv), (h1, mkC h2), (h2, .inl (cJ, 4, .inr (.inl f))), (h3, mkC h4), (h4, .inl (cJ, 4, .inr (.inl g))), (h5, .inl (cJ, 4, .inr (.inl ur)))] sz) := by
  refine Met.ofW (cc := cX0_learn) (maxL := 6) (ret := none) (by decide) rfl ?_
  intro p e s m args below meth c s₁ B hml hv
  obtain ⟨rfl, hsz, hP, hK, hD0, hN⟩ := hv
  have hx := B.exec
  have hb := B.bytes
  have hr := B.returns
  have hts := atoms_spec (ws := (wa yX0_learn cX0_learn 6 none)) B.pre
  have ha : ∀ w ∈ wsL_law, w.before _ s = true := fun w h => hts w (List.mem_cons_of_mem _ h)
  have hown : s.vm.findClass RX0 = some m.cls := findClass_of_methodNamed B.named
  have hlocks := B.notSynchronized
  subst hsz
  have hD := hD0.self (sz := s.heap.size)
  generalize hAe : va_A [(h0, boC h1 h3 bv), (h1, mkC h2), (h2, .inl (cJ, 4, .inr (.inl f))), (h3, mkC h4), (h4, .inl (cJ, 4, .inr (.inl g))), (h5, .inl (cJ, 4, .inr (.inl ur)))] s.heap.size = A at hD ⊢
  have hA : ∀ q : Nat, s.heap.size ≤ q → A q := fun q h => by rw [← hAe]; exact Or.inr h
  have hS : va_S A s.heap s.heap [] := va_S.rf
  have hP : va_P D vwCl [(h0, boC h1 h3 bv), (h1, mkC h2), (h2, .inl (cJ, 4, .inr (.inl f))), (h3, mkC h4), (h4, .inl (cJ, 4, .inr (.inl g))), (h5, .inl (cJ, 4, .inr (.inl ur)))] s.heap := hP
  have hl := lv_entry ([.ref h0, .ref h5, .int n1, .int n2]) (n := 6) (Nat.le_of_ble_eq_true rfl)
  rw [lg_entry_eq]
  generalize (lg_sl ([.ref h0, .ref h5, .int n1, .int n2]) ++ List.replicate (6 - (lg_sl ([.ref h0, .ref h5, .int n1, .int n2])).length) Slot.unset).toArray = ls at hl ⊢
  have hl : lv_has ls 6 [(0, .ref h0), (1, .ref h5), (2, .int n1), (3, .int n2)] := hl
  obtain ⟨QP, hQP⟩ : ∃ y : State → Prop, y = (MQ below (va_Qv (fun (_ : Unit) => True) (fun (_ : Unit) (t : State) => ∃ (bv2 : Nat → Int32) (f2 g2 ur2 : Nat → Int64), (bv2 = (xc_blearn bv f g ur n1 n2).1 ∧ f2 = (xc_blearn bv f g ur n1 n2).2.1 ∧ g2 = (xc_blearn bv f g ur n1 n2).2.2.1 ∧ ur2 = (xc_blearn bv f g ur n1 n2).2.2.2) ∧ pw_t D cI cJ cZ cO A [(h0, boC h1 h3 bv2), (h1, mkC h2), (h2, .inl (cJ, 4, .inr (.inl f2))), (h3, mkC h4), (h4, .inl (cJ, 4, .inr (.inl g2))), (h5, .inl (cJ, 4, .inr (.inl ur2)))] t) A) #[(.ref h0 : Value), (.ref h5 : Value), (.int n1 : Value), (.int n2 : Value)] s 0 0 A) := ⟨_, rfl⟩
  obtain ⟨RES, hRES⟩ : ∃ y, y = (xc_blearn bv f g ur n1 n2) := ⟨_, rfl⟩
  have L_21 : ∀ (n_21 : Nat), ∀ (bv : Nat → Int32) (f : Nat → Int64) (g : Nat → Int64) (ur : Nat → Int64) (H : Heap) (locs : List Loc), va_P D vwCl [(h0, boC h1 h3 bv), (h1, mkC h2), (h2, .inl (cJ, 4, .inr (.inl f))), (h3, mkC h4), (h4, .inl (cJ, 4, .inr (.inl g))), (h5, .inl (cJ, 4, .inr (.inl ur)))] H → va_D A [(h0, boC h1 h3 bv), (h1, mkC h2), (h2, .inl (cJ, 4, .inr (.inl f))), (h3, mkC h4), (h4, .inl (cJ, 4, .inr (.inl g))), (h5, .inl (cJ, 4, .inr (.inl ur)))] → va_S A s.heap H locs → ∀ (i2 : Int32) (i3 : Int32) (i4 : Int32) (i5 : Int32) (ls : Array Slot), lv_has ls 6 [(0, .ref h0), (1, .ref h5), (2, .int i2), (3, .int i3), (4, .int i4), (5, .int i5)] → RES = xc_blearn_21 n1 n2 n_21 bv f g ur i2 i3 i4 i5 →  (i5.toInt - i2.toInt).toNat < n_21 → W p l e ({ frames := 1, cells := 0, slots := 0, locals := 22 }) s m #[(.ref h0 : Value), (.ref h5 : Value), (.int n1 : Value), (.int n2 : Value)] below meth c H locs 0 0 QP (F0 m 21 ls []) := by
    intro n_21
    induction n_21 with
    | zero => intro bv f g ur H locs hP hD hS i2 i3 i4 i5 ls hl hE hm; exact absurd hm (Nat.not_lt_zero _)
    | succ n_21 ih_21 =>
      have J_74 : ∀ (bv : Nat → Int32) (f : Nat → Int64) (g : Nat → Int64) (ur : Nat → Int64) (H : Heap) (locs : List Loc), va_P D vwCl [(h0, boC h1 h3 bv), (h1, mkC h2), (h2, .inl (cJ, 4, .inr (.inl f))), (h3, mkC h4), (h4, .inl (cJ, 4, .inr (.inl g))), (h5, .inl (cJ, 4, .inr (.inl ur)))] H → va_D A [(h0, boC h1 h3 bv), (h1, mkC h2), (h2, .inl (cJ, 4, .inr (.inl f))), (h3, mkC h4), (h4, .inl (cJ, 4, .inr (.inl g))), (h5, .inl (cJ, 4, .inr (.inl ur)))] → va_S A s.heap H locs → ∀ (i2 : Int32) (i3 : Int32) (i4 : Int32) (i5 : Int32) (ls : Array Slot), lv_has ls 6 [(0, .ref h0), (1, .ref h5), (2, .int i2), (3, .int i3), (4, .int i4), (5, .int i5)] → RES = xc_blearn_74 n1 n2 (xc_blearn_21 n1 n2 n_21) bv f g ur i2 i3 i4 i5 → ((i5 + (-1)).toInt - i2.toInt).toNat < n_21 → W p l e ({ frames := 1, cells := 0, slots := 0, locals := 22 }) s m #[(.ref h0 : Value), (.ref h5 : Value), (.int n1 : Value), (.int n2 : Value)] below meth c H locs 0 0 QP (F0 m 74 ls []) := by
        intro bv f g ur H locs hP hD hS i2 i3 i4 i5 ls hl hE hq_21
        unfold xc_blearn_74 at hE
        obtain ⟨x_18, ex_18⟩ : ∃ y : Int32, y = i5 + (-1) := ⟨_, rfl⟩
        have hE := bd_at ex_18 hE
        refine lv_iinc (v := x_18) (lv' := [(5, .int x_18), (0, .ref h0), (1, .ref h5), (2, .int i2), (3, .int i3), (4, .int i4)]) hx hb dX0_learn_74 hl (k := 5) rfl (by rw [ex_18]; rfl) (by decide) rfl (fun ls hl => ?_)
        refine lv_goto (tgt := 21) hx hb dX0_learn_77 (by decide) ?_
        exact ih_21 bv f g ur _ _ hP hD hS i2 i3 i4 x_18 _ (lv_sub hl [1, 2, 3, 4, 5, 0] rfl) hE (by rw [ex_18]; exact hq_21)
      have J_71 : ∀ (bv : Nat → Int32) (f : Nat → Int64) (g : Nat → Int64) (ur : Nat → Int64) (H : Heap) (locs : List Loc), va_P D vwCl [(h0, boC h1 h3 bv), (h1, mkC h2), (h2, .inl (cJ, 4, .inr (.inl f))), (h3, mkC h4), (h4, .inl (cJ, 4, .inr (.inl g))), (h5, .inl (cJ, 4, .inr (.inl ur)))] H → va_D A [(h0, boC h1 h3 bv), (h1, mkC h2), (h2, .inl (cJ, 4, .inr (.inl f))), (h3, mkC h4), (h4, .inl (cJ, 4, .inr (.inl g))), (h5, .inl (cJ, 4, .inr (.inl ur)))] → va_S A s.heap H locs → ∀ (i2 : Int32) (i3 : Int32) (i4 : Int32) (i5 : Int32) (s0 : Int32) (ls : Array Slot), lv_has ls 6 [(0, .ref h0), (1, .ref h5), (2, .int i2), (3, .int i3), (4, .int i4), (5, .int i5)] → RES = xc_blearn_71 n1 n2 (xc_blearn_21 n1 n2 n_21) bv f g ur i2 i3 i4 i5 s0 → ((i5 + (-1)).toInt - i2.toInt).toNat < n_21 → W p l e ({ frames := 1, cells := 0, slots := 0, locals := 22 }) s m #[(.ref h0 : Value), (.ref h5 : Value), (.int n1 : Value), (.int n2 : Value)] below meth c H locs 0 0 QP (F0 m 71 ls [.int s0, .ref h0]) := by
        intro bv f g ur H locs hP hD hS i2 i3 i4 i5 s0 ls hl hE hq_21
        unfold xc_blearn_71 at hE
        refine va_put (D := D) (ci := 0) (v := .int s0) (ty := .int) (C := RX0) (T := TX0) (N := 4) hx hb ha inlX0 tyX0 tyX0_ok nmX0 hown hK hP hD hS 0 rfl rfl 2 (by decide) (ha _ kf_X0_29) (fun _ h9 => h9) rfl (by decide +kernel) rfl rfl (Nat.le_of_ble_eq_true rfl) dX0_learn_71 (fun H locs hP hD hS => ?_)
        have hP : va_P D vwCl [(h0, boC h1 h3 (upd bv 2 s0)), (h1, mkC h2), (h2, .inl (cJ, 4, .inr (.inl f))), (h3, mkC h4), (h4, .inl (cJ, 4, .inr (.inl g))), (h5, .inl (cJ, 4, .inr (.inl ur)))] H := hP
        have hD : va_D A [(h0, boC h1 h3 (upd bv 2 s0)), (h1, mkC h2), (h2, .inl (cJ, 4, .inr (.inl f))), (h3, mkC h4), (h4, .inl (cJ, 4, .inr (.inl g))), (h5, .inl (cJ, 4, .inr (.inl ur)))] := hD
        generalize hg_19 : upd bv 2 s0 = bv at hP hD
        have hE := bs_at hg_19 hE
        exact J_74 bv f g ur _ _ hP hD hS i2 i3 i4 i5 _ (lv_sub hl [0, 1, 2, 3, 4, 5] rfl) hE hq_21
      intro bv f g ur H locs hP hD hS i2 i3 i4 i5 ls hl hE hm_21
      rw [xc_blearn_21] at hE
      refine lv_iload hx hb dX0_learn_21 (lv_at hl 5 rfl) ?_
      refine lv_iload_n hx hb dX0_learn_23 rfl (lv_at hl 2 rfl) ?_
      refine lv_icmp_le (tgt := 80) hx hb dX0_learn_24 (by decide) (fun c_20 => ?_) (fun c_20 => ?_)
      · have hE := hE.trans (if_pos c_20)
        rw [hQP]
        have hP9 := hP.sub (ws' := [(h0, boC h1 h3 bv), (h1, mkC h2), (h2, .inl (cJ, 4, .inr (.inl f))), (h3, mkC h4), (h4, .inl (cJ, 4, .inr (.inl g))), (h5, .inl (cJ, 4, .inr (.inl ur)))]) [0, 1, 2, 3, 4, 5] rfl
        have hD9 := hD.sub (ws' := [(h0, boC h1 h3 bv), (h1, mkC h2), (h2, .inl (cJ, 4, .inr (.inl f))), (h3, mkC h4), (h4, .inl (cJ, 4, .inr (.inl g))), (h5, .inl (cJ, 4, .inr (.inl ur)))]) [0, 1, 2, 3, 4, 5] (by decide) rfl
        exact W.vret hx hb hr (fun t ht hW => ⟨⟨(), rfl, trivial, ⟨bv, f, g, ur, ⟨(by rw [← hRES, hE]), (by rw [← hRES, hE]), (by rw [← hRES, hE]), (by rw [← hRES, hE])⟩, by rw [ht]; exact hP9, va_K.moved hW.alike hK, hD9⟩⟩, hS.F ht⟩) hS.2.2 dX0_learn_80
      · have hE := hE.trans (if_neg c_20)
        refine lv_iload hx hb dX0_learn_27 (lv_at hl 4 rfl) ?_
        refine lv_iconst (v := 3) hx hb dX0_learn_29 (by decide) ?_
        refine lv_icmp_ge (tgt := 80) hx hb dX0_learn_30 (by decide) (fun c_21 => ?_) (fun c_21 => ?_)
        · have hE := hE.trans (if_pos c_21)
          rw [hQP]
          have hP9 := hP.sub (ws' := [(h0, boC h1 h3 bv), (h1, mkC h2), (h2, .inl (cJ, 4, .inr (.inl f))), (h3, mkC h4), (h4, .inl (cJ, 4, .inr (.inl g))), (h5, .inl (cJ, 4, .inr (.inl ur)))]) [0, 1, 2, 3, 4, 5] rfl
          have hD9 := hD.sub (ws' := [(h0, boC h1 h3 bv), (h1, mkC h2), (h2, .inl (cJ, 4, .inr (.inl f))), (h3, mkC h4), (h4, .inl (cJ, 4, .inr (.inl g))), (h5, .inl (cJ, 4, .inr (.inl ur)))]) [0, 1, 2, 3, 4, 5] (by decide) rfl
          exact W.vret hx hb hr (fun t ht hW => ⟨⟨(), rfl, trivial, ⟨bv, f, g, ur, ⟨(by rw [← hRES, hE]), (by rw [← hRES, hE]), (by rw [← hRES, hE]), (by rw [← hRES, hE])⟩, by rw [ht]; exact hP9, va_K.moved hW.alike hK, hD9⟩⟩, hS.F ht⟩) hS.2.2 dX0_learn_80
        · have hE := hE.trans (if_neg c_21)
          refine lv_aload_n hx hb dX0_learn_33 rfl (lv_at hl 0 rfl) ?_
          refine va_get (D := D) (ci := 0) (v := .ref h1) (C := RX0) (T := TX0) (N := 4) hx hb ha inlX0 hown hK hP 0 rfl rfl 0 (by decide) (ha _ kf_X0_12) (fun _ h9 => h9) rfl dX0_learn_34 ?_
          have hPc := hP.sub (ws' := [(h1, mkC h2), (h2, .inl (cJ, 4, .inr (.inl f)))]) [1, 2] rfl
          have hDc := hD.sub (ws' := [(h1, mkC h2), (h2, .inl (cJ, 4, .inr (.inl f)))]) [1, 2] (by decide) rfl
          have hFc := va_free (wc := [(h1, mkC h2), (h2, .inl (cJ, 4, .inr (.inl f)))]) hD hS hA [1, 2] rfl
          refine va_calli (va_runV (As := []) (rest := []) ⟨hx, hb, hml, hown, ha⟩ (s_isEmpty l D cI cJ cZ cO _ h1 h2 f) (cwV 0 ha (gaV kl_X0_32 km_X4_isEmpty ks_X4_isEmpty kz_X4 kd_X4_isEmpty) rfl rfl rfl (by decide +kernel) ⟨Nat.le_of_ble_eq_true rfl, Nat.le_of_ble_eq_true rfl⟩) ⟨pw_blind, va_recv hK hPc (ci := 4) (q0 := 0) rfl rfl, fun U hU hW => ⟨rfl, pw_start hU hW hPc hK hDc hN⟩⟩ rfl rfl hl.1 rfl (lv_room (Nat.le_of_ble_eq_true rfl)) dX0_learn_37 ⟨Nat.le_of_ble_eq_true rfl, Nat.le_of_ble_eq_true rfl⟩) hS (fun q _ h => hFc q h) hFc (fun r_22 u t H1 locs ht hvm hw hB hz1 hk1 hS => ?_)
          obtain ⟨f, hX0, hP1, hK1, hD1⟩ := hB
          have hE := bd_at rfl hE
          have hE := bd_at hX0 hE
          have hE := bd_at hw.2 hE
          rw [ht] at hP1
          obtain ⟨hP, hD⟩ := va_join (wr := [(h0, boC h1 h3 bv), (h3, mkC h4), (h4, .inl (cJ, 4, .inr (.inl g))), (h5, .inl (cJ, 4, .inr (.inl ur)))]) (w1 := [(h1, mkC h2), (h2, .inl (cJ, 4, .inr (.inl f)))]) hP hD [1, 2] [0, 3, 4, 5] rfl rfl (by decide) (by decide) hk1 hFc hP1 hD1
          generalize H1 = H at hP hS ⊢
          have hP : va_P D vwCl [(h0, boC h1 h3 bv), (h3, mkC h4), (h4, .inl (cJ, 4, .inr (.inl g))), (h5, .inl (cJ, 4, .inr (.inl ur))), (h1, mkC h2), (h2, .inl (cJ, 4, .inr (.inl f)))] H := hP
          have hD : va_D A [(h0, boC h1 h3 bv), (h3, mkC h4), (h4, .inl (cJ, 4, .inr (.inl g))), (h5, .inl (cJ, 4, .inr (.inl ur))), (h1, mkC h2), (h2, .inl (cJ, 4, .inr (.inl f)))] := hD
          refine W.widen (k := 0) (n := 0) (Nat.le_of_ble_eq_true rfl) (Nat.le_of_ble_eq_true rfl) ?_
          have hr_22 := hw.1
          refine lv_if_ne (tgt := 80) hx hb dX0_learn_40 (by decide) (fun c_24 => ?_) (fun c_24 => ?_)
          · have hE := hE.trans (if_neg c_24)
            rw [hQP]
            have hP9 := hP.sub (ws' := [(h0, boC h1 h3 bv), (h1, mkC h2), (h2, .inl (cJ, 4, .inr (.inl f))), (h3, mkC h4), (h4, .inl (cJ, 4, .inr (.inl g))), (h5, .inl (cJ, 4, .inr (.inl ur)))]) [0, 4, 5, 1, 2, 3] rfl
            have hD9 := hD.sub (ws' := [(h0, boC h1 h3 bv), (h1, mkC h2), (h2, .inl (cJ, 4, .inr (.inl f))), (h3, mkC h4), (h4, .inl (cJ, 4, .inr (.inl g))), (h5, .inl (cJ, 4, .inr (.inl ur)))]) [0, 4, 5, 1, 2, 3] (by decide) rfl
            exact W.vret hx hb hr (fun t ht hW => ⟨⟨(), rfl, trivial, ⟨bv, f, g, ur, ⟨(by rw [← hRES, hE]), (by rw [← hRES, hE]), (by rw [← hRES, hE]), (by rw [← hRES, hE])⟩, by rw [ht]; exact hP9, va_K.moved hW.alike hK, hD9⟩⟩, hS.F ht⟩) hS.2.2 dX0_learn_80
          · have hE := hE.trans (if_pos c_24)
            refine lv_aload_n hx hb dX0_learn_43 rfl (lv_at hl 0 rfl) ?_
            refine va_get (D := D) (ci := 0) (v := .ref h1) (C := RX0) (T := TX0) (N := 4) hx hb ha inlX0 hown hK hP 0 rfl rfl 0 (by decide) (ha _ kf_X0_12) (fun _ h9 => h9) rfl dX0_learn_44 ?_
            refine lv_iload hx hb dX0_learn_47 (lv_at hl 5 rfl) ?_
            have hPc := hP.sub (ws' := [(h1, mkC h2), (h2, .inl (cJ, 4, .inr (.inl f)))]) [4, 5] rfl
            have hDc := hD.sub (ws' := [(h1, mkC h2), (h2, .inl (cJ, 4, .inr (.inl f)))]) [4, 5] (by decide) rfl
            have hFc := va_free (wc := [(h1, mkC h2), (h2, .inl (cJ, 4, .inr (.inl f)))]) hD hS hA [4, 5] rfl
            refine va_calli (va_runV (As := [.int i5]) (rest := []) ⟨hx, hb, hml, hown, ha⟩ (s_has l D cI cJ cZ cO _ h1 h2 f i5) (cwV 1 ha (gaV kl_X0_36 km_X4_has ks_X4_has kz_X4 kd_X4_has) rfl rfl rfl (by decide +kernel) ⟨Nat.le_of_ble_eq_true rfl, Nat.le_of_ble_eq_true rfl⟩) ⟨pw_blind, va_recv hK hPc (ci := 4) (q0 := 0) rfl rfl, fun U hU hW => ⟨rfl, pw_start hU hW hPc hK hDc hN⟩⟩ rfl rfl hl.1 rfl (lv_room (Nat.le_of_ble_eq_true rfl)) dX0_learn_49 ⟨Nat.le_of_ble_eq_true rfl, Nat.le_of_ble_eq_true rfl⟩) hS (fun q _ h => hFc q h) hFc (fun r_25 u t H1 locs ht hvm hw hB hz1 hk1 hS => ?_)
            obtain ⟨f, hX0, hP1, hK1, hD1⟩ := hB
            have hE := bd_at rfl hE
            have hE := bd_at hX0 hE
            have hE := bd_at hw.2 hE
            rw [ht] at hP1
            obtain ⟨hP, hD⟩ := va_join (wr := [(h0, boC h1 h3 bv), (h3, mkC h4), (h4, .inl (cJ, 4, .inr (.inl g))), (h5, .inl (cJ, 4, .inr (.inl ur)))]) (w1 := [(h1, mkC h2), (h2, .inl (cJ, 4, .inr (.inl f)))]) hP hD [4, 5] [0, 1, 2, 3] rfl rfl (by decide) (by decide) hk1 hFc hP1 hD1
            generalize H1 = H at hP hS ⊢
            have hP : va_P D vwCl [(h0, boC h1 h3 bv), (h3, mkC h4), (h4, .inl (cJ, 4, .inr (.inl g))), (h5, .inl (cJ, 4, .inr (.inl ur))), (h1, mkC h2), (h2, .inl (cJ, 4, .inr (.inl f)))] H := hP
            have hD : va_D A [(h0, boC h1 h3 bv), (h3, mkC h4), (h4, .inl (cJ, 4, .inr (.inl g))), (h5, .inl (cJ, 4, .inr (.inl ur))), (h1, mkC h2), (h2, .inl (cJ, 4, .inr (.inl f)))] := hD
            refine W.widen (k := 0) (n := 0) (Nat.le_of_ble_eq_true rfl) (Nat.le_of_ble_eq_true rfl) ?_
            have hr_25 := hw.1
            refine lv_if_eq (tgt := 74) hx hb dX0_learn_52 (by decide) (fun c_27 => ?_) (fun c_27 => ?_)
            · have hE := hE.trans (if_pos c_27)
              exact J_74 bv f g ur _ _ (hP.sub (ws' := [(h0, boC h1 h3 bv), (h1, mkC h2), (h2, .inl (cJ, 4, .inr (.inl f))), (h3, mkC h4), (h4, .inl (cJ, 4, .inr (.inl g))), (h5, .inl (cJ, 4, .inr (.inl ur)))]) [0, 4, 5, 1, 2, 3] rfl) (hD.sub (ws' := [(h0, boC h1 h3 bv), (h1, mkC h2), (h2, .inl (cJ, 4, .inr (.inl f))), (h3, mkC h4), (h4, .inl (cJ, 4, .inr (.inl g))), (h5, .inl (cJ, 4, .inr (.inl ur)))]) [0, 4, 5, 1, 2, 3] (by decide) rfl) hS i2 i3 i4 i5 _ (lv_sub hl [0, 1, 2, 3, 4, 5] rfl) hE (Nat.lt_of_lt_of_le (sw_dn c_20 rfl) (Nat.le_of_lt_succ hm_21))
            · have hE := hE.trans (if_neg c_27)
              obtain ⟨x_28, ex_28⟩ : ∃ y : Int32, y = i4 + 1 := ⟨_, rfl⟩
              have hE := bd_at ex_28 hE
              refine lv_iinc (v := x_28) (lv' := [(4, .int x_28), (0, .ref h0), (1, .ref h5), (2, .int i2), (3, .int i3), (5, .int i5)]) hx hb dX0_learn_55 hl (k := 4) rfl (by rw [ex_28]; rfl) (by decide) rfl (fun ls hl => ?_)
              refine lv_aload_n hx hb dX0_learn_58 rfl (lv_at hl 1 rfl) ?_
              refine lv_iload hx hb dX0_learn_59 (lv_at hl 0 rfl) ?_
              refine lv_iconst (v := 3) hx hb dX0_learn_61 (by decide) ?_
              refine lv_icmp_ne (tgt := 70) hx hb dX0_learn_62 (by decide) (fun c_29 => ?_) (fun c_29 => ?_)
              · have hE := hE.trans (if_neg c_29)
                refine lv_iconst (v := 0) hx hb dX0_learn_70 (by decide) ?_
                exact J_71 bv f g ur _ _ (hP.sub (ws' := [(h0, boC h1 h3 bv), (h1, mkC h2), (h2, .inl (cJ, 4, .inr (.inl f))), (h3, mkC h4), (h4, .inl (cJ, 4, .inr (.inl g))), (h5, .inl (cJ, 4, .inr (.inl ur)))]) [0, 4, 5, 1, 2, 3] rfl) (hD.sub (ws' := [(h0, boC h1 h3 bv), (h1, mkC h2), (h2, .inl (cJ, 4, .inr (.inl f))), (h3, mkC h4), (h4, .inl (cJ, 4, .inr (.inl g))), (h5, .inl (cJ, 4, .inr (.inl ur)))]) [0, 4, 5, 1, 2, 3] (by decide) rfl) hS i2 i3 x_28 i5 0 _ (lv_sub hl [1, 2, 3, 4, 0, 5] rfl) hE (Nat.lt_of_lt_of_le (sw_dn c_20 rfl) (Nat.le_of_lt_succ hm_21))
              · have hE := hE.trans (if_pos c_29)
                refine lv_iload hx hb dX0_learn_65 (lv_at hl 5 rfl) ?_
                refine lv_goto (tgt := 71) hx hb dX0_learn_67 (by decide) ?_
                exact J_71 bv f g ur _ _ (hP.sub (ws' := [(h0, boC h1 h3 bv), (h1, mkC h2), (h2, .inl (cJ, 4, .inr (.inl f))), (h3, mkC h4), (h4, .inl (cJ, 4, .inr (.inl g))), (h5, .inl (cJ, 4, .inr (.inl ur)))]) [0, 4, 5, 1, 2, 3] rfl) (hD.sub (ws' := [(h0, boC h1 h3 bv), (h1, mkC h2), (h2, .inl (cJ, 4, .inr (.inl f))), (h3, mkC h4), (h4, .inl (cJ, 4, .inr (.inl g))), (h5, .inl (cJ, 4, .inr (.inl ur)))]) [0, 4, 5, 1, 2, 3] (by decide) rfl) hS i2 i3 x_28 i5 i5 _ (lv_sub hl [1, 2, 3, 4, 0, 5] rfl) hE (Nat.lt_of_lt_of_le (sw_dn c_20 rfl) (Nat.le_of_lt_succ hm_21))
  rw [hQP] at L_21
  -- from the entry
  have hE := hRES
  unfold xc_blearn at hE
  refine lv_aload_n hx hb dX0_learn_0 rfl (lv_at hl 0 rfl) ?_
  refine va_get (D := D) (ci := 0) (v := .ref h1) (C := RX0) (T := TX0) (N := 4) hx hb ha inlX0 hown hK hP 0 rfl rfl 0 (by decide) (ha _ kf_X0_12) (fun _ h9 => h9) rfl dX0_learn_1 ?_
  refine lv_aload_n hx hb dX0_learn_4 rfl (lv_at hl 1 rfl) ?_
  have hPc := hP.sub (ws' := [(h1, mkC h2), (h2, .inl (cJ, 4, .inr (.inl f))), (h5, .inl (cJ, 4, .inr (.inl ur)))]) [1, 2, 5] rfl
  have hDc := hD.sub (ws' := [(h1, mkC h2), (h2, .inl (cJ, 4, .inr (.inl f))), (h5, .inl (cJ, 4, .inr (.inl ur)))]) [1, 2, 5] (by decide) rfl
  have hFc := va_free (wc := [(h1, mkC h2), (h2, .inl (cJ, 4, .inr (.inl f))), (h5, .inl (cJ, 4, .inr (.inl ur)))]) hD hS hA [1, 2, 5] rfl
  refine va_callv (va_runV (As := [.ref h5]) (rest := []) ⟨hx, hb, hml, hown, ha⟩ (s_readFrom l D cI cJ cZ cO _ h1 h2 h5 f ur) (cwV 1 ha (gaV kl_X0_25 km_X4_readFrom ks_X4_readFrom kz_X4 kd_X4_readFrom) rfl rfl rfl (by decide +kernel) ⟨Nat.le_of_ble_eq_true rfl, Nat.le_of_ble_eq_true rfl⟩) ⟨pw_blind, va_recv hK hPc (ci := 4) (q0 := 0) rfl rfl, fun U hU hW => ⟨rfl, pw_start hU hW hPc hK hDc hN⟩⟩ rfl rfl hl.1 rfl (lv_room (Nat.le_of_ble_eq_true rfl)) dX0_learn_5 ⟨Nat.le_of_ble_eq_true rfl, Nat.le_of_ble_eq_true rfl⟩) hS (fun q _ h => hFc q h) hFc (fun u t H1 locs ht hvm hw hB hz1 hk1 hS => ?_)
  obtain ⟨f, ur, ⟨hX0, hX1⟩, hP1, hK1, hD1⟩ := hB
  have hE := bd_at rfl hE
  have hE := bd_at hX0 hE
  have hE := bd_at hX1 hE
  rw [ht] at hP1
  obtain ⟨hP, hD⟩ := va_join (wr := [(h0, boC h1 h3 bv), (h3, mkC h4), (h4, .inl (cJ, 4, .inr (.inl g)))]) (w1 := [(h1, mkC h2), (h2, .inl (cJ, 4, .inr (.inl f))), (h5, .inl (cJ, 4, .inr (.inl ur)))]) hP hD [1, 2, 5] [0, 3, 4] rfl rfl (by decide) (by decide) hk1 hFc hP1 hD1
  generalize H1 = H at hP hS ⊢
  have hP : va_P D vwCl [(h0, boC h1 h3 bv), (h3, mkC h4), (h4, .inl (cJ, 4, .inr (.inl g))), (h1, mkC h2), (h2, .inl (cJ, 4, .inr (.inl f))), (h5, .inl (cJ, 4, .inr (.inl ur)))] H := hP
  have hD : va_D A [(h0, boC h1 h3 bv), (h3, mkC h4), (h4, .inl (cJ, 4, .inr (.inl g))), (h1, mkC h2), (h2, .inl (cJ, 4, .inr (.inl f))), (h5, .inl (cJ, 4, .inr (.inl ur)))] := hD
  refine W.widen (k := 0) (n := 0) (Nat.le_of_ble_eq_true rfl) (Nat.le_of_ble_eq_true rfl) ?_
  refine lv_aload_n hx hb dX0_learn_8 rfl (lv_at hl 0 rfl) ?_
  refine lv_iconst (v := 0) hx hb dX0_learn_9 (by decide) ?_
  refine va_put (D := D) (ci := 0) (v := .int 0) (ty := .int) (C := RX0) (T := TX0) (N := 4) hx hb ha inlX0 tyX0 tyX0_ok nmX0 hown hK hP hD hS 0 rfl rfl 2 (by decide) (ha _ kf_X0_29) (fun _ h9 => h9) rfl (by decide +kernel) rfl rfl (Nat.le_of_ble_eq_true rfl) dX0_learn_10 (fun H locs hP hD hS => ?_)
  have hP : va_P D vwCl [(h0, boC h1 h3 (upd bv 2 0)), (h3, mkC h4), (h4, .inl (cJ, 4, .inr (.inl g))), (h1, mkC h2), (h2, .inl (cJ, 4, .inr (.inl f))), (h5, .inl (cJ, 4, .inr (.inl ur)))] H := hP
  have hD : va_D A [(h0, boC h1 h3 (upd bv 2 0)), (h3, mkC h4), (h4, .inl (cJ, 4, .inr (.inl g))), (h1, mkC h2), (h2, .inl (cJ, 4, .inr (.inl f))), (h5, .inl (cJ, 4, .inr (.inl ur)))] := hD
  generalize hg_33 : upd bv 2 0 = bv at hP hD
  have hE := bs_at hg_33 hE
  refine lv_iconst (v := 0) hx hb dX0_learn_13 (by decide) ?_
  refine lv_istore (lv' := [(4, .int 0), (0, .ref h0), (1, .ref h5), (2, .int n1), (3, .int n2)]) hx hb dX0_learn_14 hl (by decide) rfl (fun ls hl => ?_)
  refine lv_iload_n hx hb dX0_learn_16 rfl (lv_at hl 4 rfl) ?_
  refine lv_iconst (v := 1) hx hb dX0_learn_17 (by decide) ?_
  refine lv_isub hx hb dX0_learn_18 ?_
  refine lv_topi (fun x_34 ex_34 => ?_)
  have hE := bd_at ex_34 hE
  refine lv_istore (lv' := [(5, .int x_34), (4, .int 0), (0, .ref h0), (1, .ref h5), (2, .int n1), (3, .int n2)]) hx hb dX0_learn_19 hl (by decide) rfl (fun ls hl => ?_)
  exact L_21 ((x_34.toInt - n1.toInt).toNat + 1) bv f g ur _ _ (hP.sub (ws' := [(h0, boC h1 h3 bv), (h1, mkC h2), (h2, .inl (cJ, 4, .inr (.inl f))), (h3, mkC h4), (h4, .inl (cJ, 4, .inr (.inl g))), (h5, .inl (cJ, 4, .inr (.inl ur)))]) [0, 3, 4, 1, 2, 5] rfl) (hD.sub (ws' := [(h0, boC h1 h3 bv), (h1, mkC h2), (h2, .inl (cJ, 4, .inr (.inl f))), (h3, mkC h4), (h4, .inl (cJ, 4, .inr (.inl g))), (h5, .inl (cJ, 4, .inr (.inl ur)))]) [0, 3, 4, 1, 2, 5] (by decide) rfl) hS n1 n2 0 x_34 _ (lv_sub hl [2, 3, 4, 5, 1, 0] rfl) hE (Nat.lt_succ_self _)

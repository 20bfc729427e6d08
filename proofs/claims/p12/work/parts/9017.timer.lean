set_option maxRecDepth 100000 in
def xc_tset (tv : Nat → Int32) (n1 : Int32) : (Nat → Int32) := bd (tv 0) (fun v1 => bd (n1 + v1) (fun v2 => bd (upd tv 3 v2) (fun tv => (tv))))
set_option maxHeartbeats 4000000 in
set_option maxRecDepth 100000 in
theorem s_tset (l : Launch) (D : va_G) (cI cJ cZ cO : ClassId) (sz : Nat) (h0 : Nat) (tv : Nat → Int32) (n1 : Int32) : Met l yX9_set (wa yX9_set cX9_set 2 none) ({ frames := 0, cells := 0, slots := 0, locals := 0 }) (va_Pc [.ref h0, .int n1] (pw_s D cI cJ cZ cO sz [(h0, tmC tv)])) (va_Qv (fun (_ : Unit) => True) (fun (_ : Unit) (t : State) => ∃ (tv2 : Nat → Int32), (tv2 = (xc_tset tv n1)) ∧ pw_t D cI cJ cZ cO (va_A [(h0, tmC tv)] sz) [(h0, tmC tv2)] t) (va_A [(h0, tmC tv)] sz)) 0 0 (va_A [(h0, tmC tv)] sz) := by
  refine Met.ofW (cc := cX9_set) (maxL := 2) (ret := none) (by decide) rfl ?_
  intro p e s m args below meth c s₁ B hml hv
  obtain ⟨rfl, hsz, hP, hK, hD0, hN⟩ := hv
  have hx := B.exec
  have hb := B.bytes
  have hr := B.returns
  have hts := atoms_spec (ws := (wa yX9_set cX9_set 2 none)) B.pre
  have ha : ∀ w ∈ wsL_law, w.before _ s = true := fun w h => hts w (List.mem_cons_of_mem _ h)
  have hown : s.vm.findClass RX9 = some m.cls := findClass_of_methodNamed B.named
  have hlocks := B.notSynchronized
  subst hsz
  have hD := hD0.self (sz := s.heap.size)
  generalize hAe : va_A [(h0, tmC tv)] s.heap.size = A at hD ⊢
  have hA : ∀ q : Nat, s.heap.size ≤ q → A q := fun q h => by rw [← hAe]; exact Or.inr h
  have hS : va_S A s.heap s.heap [] := va_S.rf
  have hP : va_P D vwCl [(h0, tmC tv)] s.heap := hP
  have hl := lv_entry ([.ref h0, .int n1]) (n := 2) (Nat.le_of_ble_eq_true rfl)
  rw [lg_entry_eq]
  generalize (lg_sl ([.ref h0, .int n1]) ++ List.replicate (2 - (lg_sl ([.ref h0, .int n1])).length) Slot.unset).toArray = ls at hl ⊢
  have hl : lv_has ls 2 [(0, .ref h0), (1, .int n1)] := hl
  obtain ⟨QP, hQP⟩ : ∃ y : State → Prop, y = (MQ below (va_Qv (fun (_ : Unit) => True) (fun (_ : Unit) (t : State) => ∃ (tv2 : Nat → Int32), (tv2 = (xc_tset tv n1)) ∧ pw_t D cI cJ cZ cO A [(h0, tmC tv2)] t) A) #[(.ref h0 : Value), (.int n1 : Value)] s 0 0 A) := ⟨_, rfl⟩
  obtain ⟨RES, hRES⟩ : ∃ y, y = (xc_tset tv n1) := ⟨_, rfl⟩
  -- from the entry
  have hE := hRES
  unfold xc_tset at hE
  refine lv_aload_n hx hb dX9_set_0 rfl (lv_at hl 0 rfl) ?_
  refine lv_iload_n hx hb dX9_set_1 rfl (lv_at hl 1 rfl) ?_
  refine lv_aload_n hx hb dX9_set_2 rfl (lv_at hl 0 rfl) ?_
  refine va_get (D := D) (ci := 9) (v := .int (tv 0)) (C := RX9) (T := TX9) (N := 6) hx hb ha inlX9 hown hK hP 0 rfl rfl 0 (by decide) (ha _ kf_X9_9) (fun _ h9 => h9) rfl dX9_set_3 ?_
  refine lv_topi (fun x_4 ex_4 => ?_)
  have hE := bd_at ex_4 hE
  refine lv_iadd hx hb dX9_set_6 ?_
  refine lv_topi (fun x_5 ex_5 => ?_)
  have hE := bd_at ex_5 hE
  refine va_put (D := D) (ci := 9) (v := .int x_5) (ty := .int) (C := RX9) (T := TX9) (N := 6) hx hb ha inlX9 tyX9 tyX9_ok nmX9 hown hK hP hD hS 0 rfl rfl 3 (by decide) (ha _ kf_X9_15) (fun _ h9 => h9) rfl (by decide +kernel) rfl rfl (Nat.le_of_ble_eq_true rfl) dX9_set_7 (fun H locs hP hD hS => ?_)
  have hP : va_P D vwCl [(h0, tmC (upd tv 3 x_5))] H := hP
  have hD : va_D A [(h0, tmC (upd tv 3 x_5))] := hD
  generalize hg_6 : upd tv 3 x_5 = tv at hP hD
  have hE := bs_at hg_6 hE
  have hP9 := hP.sub (ws' := [(h0, tmC tv)]) [0] rfl
  have hD9 := hD.sub (ws' := [(h0, tmC tv)]) [0] (by decide) rfl
  exact W.vret hx hb hr (fun t ht hW => ⟨⟨(), rfl, trivial, ⟨tv, (by rw [← hRES, hE]), by rw [ht]; exact hP9, va_K.moved hW.alike hK, hD9⟩⟩, hS.F ht⟩) hS.2.2 dX9_set_10

set_option maxRecDepth 100000 in
def xc_tput (tv : Nat → Int32) : (Nat → Int32) := bd (upd tv 3 ((-1) : Int32)) (fun tv => (tv))
set_option maxHeartbeats 4000000 in
set_option maxRecDepth 100000 in
theorem s_tput (l : Launch) (D : va_G) (cI cJ cZ cO : ClassId) (sz : Nat) (h0 : Nat) (tv : Nat → Int32) : Met l yX9_putOff (wa yX9_putOff cX9_putOff 1 none) ({ frames := 0, cells := 0, slots := 0, locals := 0 }) (va_Pc [.ref h0] (pw_s D cI cJ cZ cO sz [(h0, tmC tv)])) (va_Qv (fun (_ : Unit) => True) (fun (_ : Unit) (t : State) => ∃ (tv2 : Nat → Int32), (tv2 = (xc_tput tv)) ∧ pw_t D cI cJ cZ cO (va_A [(h0, tmC tv)] sz) [(h0, tmC tv2)] t) (va_A [(h0, tmC tv)] sz)) 0 0 (va_A [(h0, tmC tv)] sz) := by
  refine Met.ofW (cc := cX9_putOff) (maxL := 1) (ret := none) (by decide) rfl ?_
  intro p e s m args below meth c s₁ B hml hv
  obtain ⟨rfl, hsz, hP, hK, hD0, hN⟩ := hv
  have hx := B.exec
  have hb := B.bytes
  have hr := B.returns
  have hts := atoms_spec (ws := (wa yX9_putOff cX9_putOff 1 none)) B.pre
  have ha : ∀ w ∈ wsL_law, w.before _ s = true := fun w h => hts w (List.mem_cons_of_mem _ h)
  have hown : s.vm.findClass RX9 = some m.cls := findClass_of_methodNamed B.named
  have hlocks := B.notSynchronized
  subst hsz
  have hD := hD0.self (sz := s.heap.size)
  generalize hAe : va_A [(h0, tmC tv)] s.heap.size = A at hD ⊢
  have hA : ∀ q : Nat, s.heap.size ≤ q → A q := fun q h => by rw [← hAe]; exact Or.inr h
  have hS : va_S A s.heap s.heap [] := va_S.rf
  have hP : va_P D vwCl [(h0, tmC tv)] s.heap := hP
  have hl := lv_entry ([.ref h0]) (n := 1) (Nat.le_of_ble_eq_true rfl)
  rw [lg_entry_eq]
  generalize (lg_sl ([.ref h0]) ++ List.replicate (1 - (lg_sl ([.ref h0])).length) Slot.unset).toArray = ls at hl ⊢
  have hl : lv_has ls 1 [(0, .ref h0)] := hl
  obtain ⟨QP, hQP⟩ : ∃ y : State → Prop, y = (MQ below (va_Qv (fun (_ : Unit) => True) (fun (_ : Unit) (t : State) => ∃ (tv2 : Nat → Int32), (tv2 = (xc_tput tv)) ∧ pw_t D cI cJ cZ cO A [(h0, tmC tv2)] t) A) #[(.ref h0 : Value)] s 0 0 A) := ⟨_, rfl⟩
  obtain ⟨RES, hRES⟩ : ∃ y, y = (xc_tput tv) := ⟨_, rfl⟩
  -- from the entry
  have hE := hRES
  unfold xc_tput at hE
  refine lv_aload_n hx hb dX9_putOff_0 rfl (lv_at hl 0 rfl) ?_
  refine lv_iconst (v := (-1)) hx hb dX9_putOff_1 (by decide) ?_
  refine va_put (D := D) (ci := 9) (v := .int (-1)) (ty := .int) (C := RX9) (T := TX9) (N := 6) hx hb ha inlX9 tyX9 tyX9_ok nmX9 hown hK hP hD hS 0 rfl rfl 3 (by decide) (ha _ kf_X9_15) (fun _ h9 => h9) rfl (by decide +kernel) rfl rfl (Nat.le_of_ble_eq_true rfl) dX9_putOff_2 (fun H locs hP hD hS => ?_)
  have hP : va_P D vwCl [(h0, tmC (upd tv 3 (-1)))] H := hP
  have hD : va_D A [(h0, tmC (upd tv 3 (-1)))] := hD
  generalize hg_2 : upd tv 3 (-1) = tv at hP hD
  have hE := bs_at hg_2 hE
  have hP9 := hP.sub (ws' := [(h0, tmC tv)]) [0] rfl
  have hD9 := hD.sub (ws' := [(h0, tmC tv)]) [0] (by decide) rfl
  exact W.vret hx hb hr (fun t ht hW => ⟨⟨(), rfl, trivial, ⟨tv, (by rw [← hRES, hE]), by rw [ht]; exact hP9, va_K.moved hW.alike hK, hD9⟩⟩, hS.F ht⟩) hS.2.2 dX9_putOff_5

set_option maxRecDepth 100000 in
def xc_tsetIf (tv : Nat → Int32) (n1 : Int32) : (Nat → Int32) := bd (tv 3) (fun v1 => (if v1 = ((-1) : Int32) then bd (xc_tset tv n1) (fun t2 => bd (t2) (fun tv => (tv))) else (tv)))
set_option maxHeartbeats 4000000 in
set_option maxRecDepth 100000 in
theorem s_tsetIf (l : Launch) (D : va_G) (cI cJ cZ cO : ClassId) (sz : Nat) (h0 : Nat) (tv : Nat → Int32) (n1 : Int32) : Met l yX9_setIfOff (wa yX9_setIfOff cX9_setIfOff 2 none) ({ frames := 1, cells := 0, slots := 0, locals := 21 }) (va_Pc [.ref h0, .int n1] (pw_s D cI cJ cZ cO sz [(h0, tmC tv)])) (va_Qv (fun (_ : Unit) => True) (fun (_ : Unit) (t : State) => ∃ (tv2 : Nat → Int32), (tv2 = (xc_tsetIf tv n1)) ∧ pw_t D cI cJ cZ cO (va_A [(h0, tmC tv)] sz) [(h0, tmC tv2)] t) (va_A [(h0, tmC tv)] sz)) 0 0 (va_A [(h0, tmC tv)] sz) := by
  refine Met.ofW (cc := cX9_setIfOff) (maxL := 2) (ret := none) (by decide) rfl ?_
  intro p e s m args below meth c s₁ B hml hv
  obtain ⟨rfl, hsz, hP, hK, hD0, hN⟩ := hv
  have hx := B.exec
  have hb := B.bytes
  have hr := B.returns
  have hts := atoms_spec (ws := (wa yX9_setIfOff cX9_setIfOff 2 none)) B.pre
  have ha : ∀ w ∈ wsL_law, w.before _ s = true := fun w h => hts w (List.mem_cons_of_mem _ h)
  have hown : s.vm.findClass RX9 = some m.cls := findClass_of_methodNamed B.named
  have hlocks := B.notSynchronized
  subst hsz
  have hD := hD0.self (sz := s.heap.size)
  generalize hAe : va_A [(h0, tmC tv)] s.heap.size = A at hD ⊢
  have hA : ∀ q : Nat, s.heap.size ≤ q → A q := fun q h => by rw [← hAe]; exact Or.inr h
  have hS : va_S A s.heap s.heap [] := va_S.rf
  have hP : va_P D vwCl [(h0, tmC tv)] s.heap := hP
  have hl := lv_entry ([.ref h0, .int n1]) (n := 2) (Nat.le_of_ble_eq_true rfl)
  rw [lg_entry_eq]
  generalize (lg_sl ([.ref h0, .int n1]) ++ List.replicate (2 - (lg_sl ([.ref h0, .int n1])).length) Slot.unset).toArray = ls at hl ⊢
  have hl : lv_has ls 2 [(0, .ref h0), (1, .int n1)] := hl
  obtain ⟨QP, hQP⟩ : ∃ y : State → Prop, y = (MQ below (va_Qv (fun (_ : Unit) => True) (fun (_ : Unit) (t : State) => ∃ (tv2 : Nat → Int32), (tv2 = (xc_tsetIf tv n1)) ∧ pw_t D cI cJ cZ cO A [(h0, tmC tv2)] t) A) #[(.ref h0 : Value), (.int n1 : Value)] s 0 0 A) := ⟨_, rfl⟩
  obtain ⟨RES, hRES⟩ : ∃ y, y = (xc_tsetIf tv n1) := ⟨_, rfl⟩
  -- from the entry
  have hE := hRES
  unfold xc_tsetIf at hE
  refine lv_aload_n hx hb dX9_setIfOff_0 rfl (lv_at hl 0 rfl) ?_
  refine va_get (D := D) (ci := 9) (v := .int (tv 3)) (C := RX9) (T := TX9) (N := 6) hx hb ha inlX9 hown hK hP 0 rfl rfl 3 (by decide) (ha _ kf_X9_15) (fun _ h9 => h9) rfl dX9_setIfOff_1 ?_
  refine lv_topi (fun x_5 ex_5 => ?_)
  have hE := bd_at ex_5 hE
  refine lv_iconst (v := (-1)) hx hb dX9_setIfOff_4 (by decide) ?_
  refine lv_icmp_ne (tgt := 13) hx hb dX9_setIfOff_5 (by decide) (fun c_6 => ?_) (fun c_6 => ?_)
  · have hE := hE.trans (if_neg c_6)
    have hP9 := hP.sub (ws' := [(h0, tmC tv)]) [0] rfl
    have hD9 := hD.sub (ws' := [(h0, tmC tv)]) [0] (by decide) rfl
    exact W.vret hx hb hr (fun t ht hW => ⟨⟨(), rfl, trivial, ⟨tv, (by rw [← hRES, hE]), by rw [ht]; exact hP9, va_K.moved hW.alike hK, hD9⟩⟩, hS.F ht⟩) hS.2.2 dX9_setIfOff_13
  · have hE := hE.trans (if_pos c_6)
    refine lv_aload_n hx hb dX9_setIfOff_8 rfl (lv_at hl 0 rfl) ?_
    refine lv_iload_n hx hb dX9_setIfOff_9 rfl (lv_at hl 1 rfl) ?_
    have hPc := hP.sub (ws' := [(h0, tmC tv)]) [0] rfl
    have hDc := hD.sub (ws' := [(h0, tmC tv)]) [0] (by decide) rfl
    have hFc := va_free (wc := [(h0, tmC tv)]) hD hS hA [0] rfl
    refine va_callv (va_runV (As := [.int n1]) (rest := []) ⟨hx, hb, hml, hown, ha⟩ (s_tset l D cI cJ cZ cO _ h0 tv n1) (cwV 1 ha (gaV kl_X9_21 km_X9_set ks_X9_set kz_X9 kd_X9_set) rfl rfl rfl (by decide +kernel) ⟨Nat.le_of_ble_eq_true rfl, Nat.le_of_ble_eq_true rfl⟩) ⟨pw_blind, va_recv hK hPc (ci := 9) (q0 := 0) rfl rfl, fun U hU hW => ⟨rfl, pw_start hU hW hPc hK hDc hN⟩⟩ rfl rfl hl.1 rfl (lv_room (Nat.le_of_ble_eq_true rfl)) dX9_setIfOff_10 ⟨Nat.le_of_ble_eq_true rfl, Nat.le_of_ble_eq_true rfl⟩) hS (fun q _ h => hFc q h) hFc (fun u t H1 locs ht hvm hw hB hz1 hk1 hS => ?_)
    obtain ⟨tv, hX0, hP1, hK1, hD1⟩ := hB
    have hE := bd_at rfl hE
    have hE := bd_at hX0 hE
    rw [ht] at hP1
    obtain ⟨hP, hD⟩ := va_join (wr := []) (w1 := [(h0, tmC tv)]) hP hD [0] [] rfl rfl (by decide) (by decide) hk1 hFc hP1 hD1
    generalize H1 = H at hP hS ⊢
    have hP : va_P D vwCl [(h0, tmC tv)] H := hP
    have hD : va_D A [(h0, tmC tv)] := hD
    refine W.widen (k := 0) (n := 0) (Nat.le_of_ble_eq_true rfl) (Nat.le_of_ble_eq_true rfl) ?_
    have hP9 := hP.sub (ws' := [(h0, tmC tv)]) [0] rfl
    have hD9 := hD.sub (ws' := [(h0, tmC tv)]) [0] (by decide) rfl
    exact W.vret hx hb hr (fun t ht hW => ⟨⟨(), rfl, trivial, ⟨tv, (by rw [← hRES, hE]), by rw [ht]; exact hP9, va_K.moved hW.alike hK, hD9⟩⟩, hS.F ht⟩) hS.2.2 dX9_setIfOff_13

set_option maxRecDepth 100000 in
def xc_tdouble (tv : Nat → Int32) : (Nat → Int32) := bd (tv 0) (fun v1 => bd (v1 * (2 : Int32)) (fun v2 => bd (if v2 < (60000 : Int32) then v2 else (60000 : Int32)) (fun v3 => bd (upd tv 0 v3) (fun tv => (tv)))))
set_option maxHeartbeats 4000000 in
set_option maxRecDepth 100000 in
theorem s_tdouble (l : Launch) (D : va_G) (cI cJ cZ cO : ClassId) (sz : Nat) (h0 : Nat) (tv : Nat → Int32) : Met l yX9_doubleRto (wa yX9_doubleRto cX9_doubleRto 1 none) ({ frames := 1, cells := 0, slots := 0, locals := 40 }) (va_Pc [.ref h0] (pw_s D cI cJ cZ cO sz [(h0, tmC tv)])) (va_Qv (fun (_ : Unit) => True) (fun (_ : Unit) (t : State) => ∃ (tv2 : Nat → Int32), (tv2 = (xc_tdouble tv)) ∧ pw_t D cI cJ cZ cO (va_A [(h0, tmC tv)] sz) [(h0, tmC tv2)] t) (va_A [(h0, tmC tv)] sz)) 0 0 (va_A [(h0, tmC tv)] sz) := by
  refine Met.ofW (cc := cX9_doubleRto) (maxL := 1) (ret := none) (by decide) rfl ?_
  intro p e s m args below meth c s₁ B hml hv
  obtain ⟨rfl, hsz, hP, hK, hD0, hN⟩ := hv
  have hx := B.exec
  have hb := B.bytes
  have hr := B.returns
  have hts := atoms_spec (ws := (wa yX9_doubleRto cX9_doubleRto 1 none)) B.pre
  have ha : ∀ w ∈ wsL_law, w.before _ s = true := fun w h => hts w (List.mem_cons_of_mem _ h)
  have hown : s.vm.findClass RX9 = some m.cls := findClass_of_methodNamed B.named
  have hlocks := B.notSynchronized
  subst hsz
  have hD := hD0.self (sz := s.heap.size)
  generalize hAe : va_A [(h0, tmC tv)] s.heap.size = A at hD ⊢
  have hA : ∀ q : Nat, s.heap.size ≤ q → A q := fun q h => by rw [← hAe]; exact Or.inr h
  have hS : va_S A s.heap s.heap [] := va_S.rf
  have hP : va_P D vwCl [(h0, tmC tv)] s.heap := hP
  have hl := lv_entry ([.ref h0]) (n := 1) (Nat.le_of_ble_eq_true rfl)
  rw [lg_entry_eq]
  generalize (lg_sl ([.ref h0]) ++ List.replicate (1 - (lg_sl ([.ref h0])).length) Slot.unset).toArray = ls at hl ⊢
  have hl : lv_has ls 1 [(0, .ref h0)] := hl
  obtain ⟨QP, hQP⟩ : ∃ y : State → Prop, y = (MQ below (va_Qv (fun (_ : Unit) => True) (fun (_ : Unit) (t : State) => ∃ (tv2 : Nat → Int32), (tv2 = (xc_tdouble tv)) ∧ pw_t D cI cJ cZ cO A [(h0, tmC tv2)] t) A) #[(.ref h0 : Value)] s 0 0 A) := ⟨_, rfl⟩
  obtain ⟨RES, hRES⟩ : ∃ y, y = (xc_tdouble tv) := ⟨_, rfl⟩
  -- from the entry
  have hE := hRES
  unfold xc_tdouble at hE
  refine lv_aload_n hx hb dX9_doubleRto_0 rfl (lv_at hl 0 rfl) ?_
  refine lv_ldc (v := 60000) hx hb hown (ha _ kk_X9_25) dX9_doubleRto_1 ?_
  refine lv_aload_n hx hb dX9_doubleRto_3 rfl (lv_at hl 0 rfl) ?_
  refine va_get (D := D) (ci := 9) (v := .int (tv 0)) (C := RX9) (T := TX9) (N := 6) hx hb ha inlX9 hown hK hP 0 rfl rfl 0 (by decide) (ha _ kf_X9_9) (fun _ h9 => h9) rfl dX9_doubleRto_4 ?_
  refine lv_topi (fun x_5 ex_5 => ?_)
  have hE := bd_at ex_5 hE
  refine lv_iconst (v := 2) hx hb dX9_doubleRto_7 (by decide) ?_
  refine lv_imul hx hb dX9_doubleRto_8 ?_
  refine lv_topi (fun x_6 ex_6 => ?_)
  have hE := bd_at ex_6 hE
  refine va_mmin hx hb (hml.trans hl.1.symm) hown (ha _ kl_X9_26) (ha _ kt_min) (ha _ kz_J9) (ha _ kd_min) (Nat.le_of_ble_eq_true rfl) (Nat.le_of_ble_eq_true rfl) (Nat.le_of_ble_eq_true rfl) (Nat.le_of_ble_eq_true rfl) dX9_doubleRto_9 ?_
  refine lv_topi (fun x_7 ex_7 => ?_)
  have hE := bd_at ex_7 hE
  refine va_put (D := D) (ci := 9) (v := .int x_7) (ty := .int) (C := RX9) (T := TX9) (N := 6) hx hb ha inlX9 tyX9 tyX9_ok nmX9 hown hK hP hD hS 0 rfl rfl 0 (by decide) (ha _ kf_X9_9) (fun _ h9 => h9) rfl (by decide +kernel) rfl rfl (Nat.le_of_ble_eq_true rfl) dX9_doubleRto_12 (fun H locs hP hD hS => ?_)
  have hP : va_P D vwCl [(h0, tmC (upd tv 0 x_7))] H := hP
  have hD : va_D A [(h0, tmC (upd tv 0 x_7))] := hD
  generalize hg_8 : upd tv 0 x_7 = tv at hP hD
  have hE := bs_at hg_8 hE
  have hP9 := hP.sub (ws' := [(h0, tmC tv)]) [0] rfl
  have hD9 := hD.sub (ws' := [(h0, tmC tv)]) [0] (by decide) rfl
  exact W.vret hx hb hr (fun t ht hW => ⟨⟨(), rfl, trivial, ⟨tv, (by rw [← hRES, hE]), by rw [ht]; exact hP9, va_K.moved hW.alike hK, hD9⟩⟩, hS.F ht⟩) hS.2.2 dX9_doubleRto_15

set_option maxRecDepth 100000 in
def xc_tsent_45 (n1 : Int32) (n2 : Int32) (n3 : Int32) (tv : Nat → Int32) (i1 : Int32) (i2 : Int32) (i3 : Int32) : (Nat → Int32) := bd (xc_tsetIf tv i3) (fun t1 => bd (t1) (fun tv => (tv)))
set_option maxRecDepth 100000 in
def xc_tsent_21 (n1 : Int32) (n2 : Int32) (n3 : Int32) (tv : Nat → Int32) (i1 : Int32) (i2 : Int32) (i3 : Int32) (s0 : Int32) : (Nat → Int32) := bd (upd tv 4 s0) (fun tv => xc_tsent_45 n1 n2 n3 tv i1 i2 i3)
set_option maxRecDepth 100000 in
def xc_tsent (tv : Nat → Int32) (n1 : Int32) (n2 : Int32) (n3 : Int32) : (Nat → Int32) := (if n2 = (0 : Int32) then bd (tv 4) (fun v2 => (if v2 = ((-1) : Int32) then bd (upd tv 4 n1) (fun tv => bd (upd tv 5 n3) (fun tv => xc_tsent_45 n1 n2 n3 tv n1 n2 n3)) else xc_tsent_45 n1 n2 n3 tv n1 n2 n3)) else bd (tv 4) (fun v3 => (if n1 = v3 then xc_tsent_21 n1 n2 n3 tv n1 n2 n3 ((-1) : Int32) else bd (tv 4) (fun v4 => xc_tsent_21 n1 n2 n3 tv n1 n2 n3 v4))))
set_option maxHeartbeats 4000000 in
set_option maxRecDepth 100000 in
theorem s_tsent (l : Launch) (D : va_G) (cI cJ cZ cO : ClassId) (sz : Nat) (h0 : Nat) (tv : Nat → Int32) (n1 n2 n3 : Int32) : Met l yX9_noteSent (wa yX9_noteSent cX9_noteSent 4 none) ({ frames := 2, cells := 0, slots := 0, locals := 42 }) (va_Pc [.ref h0, .int n1, .int n2, .int n3] (pw_s D cI cJ cZ cO sz [(h0, tmC tv)])) (va_Qv (fun (_ : Unit) => True) (fun (_ : Unit) (t : State) => ∃ (tv2 : Nat → Int32), (tv2 = (xc_tsent tv n1 n2 n3)) ∧ pw_t D cI cJ cZ cO (va_A [(h0, tmC tv)] sz) [(h0, tmC tv2)] t) (va_A [(h0, tmC tv)] sz)) 0 0 (va_A [(h0, tmC tv)] sz) := by
  refine Met.ofW (cc := cX9_noteSent) (maxL := 4) (ret := none) (by decide) rfl ?_
  intro p e s m args below meth c s₁ B hml hv
  obtain ⟨rfl, hsz, hP, hK, hD0, hN⟩ := hv
  have hx := B.exec
  have hb := B.bytes
  have hr := B.returns
  have hts := atoms_spec (ws := (wa yX9_noteSent cX9_noteSent 4 none)) B.pre
  have ha : ∀ w ∈ wsL_law, w.before _ s = true := fun w h => hts w (List.mem_cons_of_mem _ h)
  have hown : s.vm.findClass RX9 = some m.cls := findClass_of_methodNamed B.named
  have hlocks := B.notSynchronized
  subst hsz
  have hD := hD0.self (sz := s.heap.size)
  generalize hAe : va_A [(h0, tmC tv)] s.heap.size = A at hD ⊢
  have hA : ∀ q : Nat, s.heap.size ≤ q → A q := fun q h => by rw [← hAe]; exact Or.inr h
  have hS : va_S A s.heap s.heap [] := va_S.rf
  have hP : va_P D vwCl [(h0, tmC tv)] s.heap := hP
  have hl := lv_entry ([.ref h0, .int n1, .int n2, .int n3]) (n := 4) (Nat.le_of_ble_eq_true rfl)
  rw [lg_entry_eq]
  generalize (lg_sl ([.ref h0, .int n1, .int n2, .int n3]) ++ List.replicate (4 - (lg_sl ([.ref h0, .int n1, .int n2, .int n3])).length) Slot.unset).toArray = ls at hl ⊢
  have hl : lv_has ls 4 [(0, .ref h0), (1, .int n1), (2, .int n2), (3, .int n3)] := hl
  obtain ⟨QP, hQP⟩ : ∃ y : State → Prop, y = (MQ below (va_Qv (fun (_ : Unit) => True) (fun (_ : Unit) (t : State) => ∃ (tv2 : Nat → Int32), (tv2 = (xc_tsent tv n1 n2 n3)) ∧ pw_t D cI cJ cZ cO A [(h0, tmC tv2)] t) A) #[(.ref h0 : Value), (.int n1 : Value), (.int n2 : Value), (.int n3 : Value)] s 0 0 A) := ⟨_, rfl⟩
  obtain ⟨RES, hRES⟩ : ∃ y, y = (xc_tsent tv n1 n2 n3) := ⟨_, rfl⟩
  have J_45 : ∀ (tv : Nat → Int32) (H : Heap) (locs : List Loc), va_P D vwCl [(h0, tmC tv)] H → va_D A [(h0, tmC tv)] → va_S A s.heap H locs → ∀ (i1 : Int32) (i2 : Int32) (i3 : Int32) (ls : Array Slot), lv_has ls 4 [(0, .ref h0), (1, .int i1), (2, .int i2), (3, .int i3)] → RES = xc_tsent_45 n1 n2 n3 tv i1 i2 i3 → W p l e ({ frames := 2, cells := 0, slots := 0, locals := 42 }) s m #[(.ref h0 : Value), (.int n1 : Value), (.int n2 : Value), (.int n3 : Value)] below meth c H locs 0 0 QP (F0 m 45 ls []) := by
    intro tv H locs hP hD hS i1 i2 i3 ls hl hE
    unfold xc_tsent_45 at hE
    refine lv_aload_n hx hb dX9_noteSent_45 rfl (lv_at hl 0 rfl) ?_
    refine lv_iload_n hx hb dX9_noteSent_46 rfl (lv_at hl 3 rfl) ?_
    have hPc := hP.sub (ws' := [(h0, tmC tv)]) [0] rfl
    have hDc := hD.sub (ws' := [(h0, tmC tv)]) [0] (by decide) rfl
    have hFc := va_free (wc := [(h0, tmC tv)]) hD hS hA [0] rfl
    refine va_callv (va_runV (As := [.int i3]) (rest := []) ⟨hx, hb, hml, hown, ha⟩ (s_tsetIf l D cI cJ cZ cO _ h0 tv i3) (cwV 1 ha (gaV kl_X9_35 km_X9_setIfOff ks_X9_setIfOff kz_X9 kd_X9_setIfOff) rfl rfl rfl (by decide +kernel) ⟨Nat.le_of_ble_eq_true rfl, Nat.le_of_ble_eq_true rfl⟩) ⟨pw_blind, va_recv hK hPc (ci := 9) (q0 := 0) rfl rfl, fun U hU hW => ⟨rfl, pw_start hU hW hPc hK hDc hN⟩⟩ rfl rfl hl.1 rfl (lv_room (Nat.le_of_ble_eq_true rfl)) dX9_noteSent_47 ⟨Nat.le_of_ble_eq_true rfl, Nat.le_of_ble_eq_true rfl⟩) hS (fun q _ h => hFc q h) hFc (fun u t H1 locs ht hvm hw hB hz1 hk1 hS => ?_)
    obtain ⟨tv, hX0, hP1, hK1, hD1⟩ := hB
    have hE := bd_at rfl hE
    have hE := bd_at hX0 hE
    rw [ht] at hP1
    obtain ⟨hP, hD⟩ := va_join (wr := []) (w1 := [(h0, tmC tv)]) hP hD [0] [] rfl rfl (by decide) (by decide) hk1 hFc hP1 hD1
    generalize H1 = H at hP hS ⊢
    have hP : va_P D vwCl [(h0, tmC tv)] H := hP
    have hD : va_D A [(h0, tmC tv)] := hD
    refine W.widen (k := 0) (n := 0) (Nat.le_of_ble_eq_true rfl) (Nat.le_of_ble_eq_true rfl) ?_
    rw [hQP]
    have hP9 := hP.sub (ws' := [(h0, tmC tv)]) [0] rfl
    have hD9 := hD.sub (ws' := [(h0, tmC tv)]) [0] (by decide) rfl
    exact W.vret hx hb hr (fun t ht hW => ⟨⟨(), rfl, trivial, ⟨tv, (by rw [← hRES, hE]), by rw [ht]; exact hP9, va_K.moved hW.alike hK, hD9⟩⟩, hS.F ht⟩) hS.2.2 dX9_noteSent_50
  have J_21 : ∀ (tv : Nat → Int32) (H : Heap) (locs : List Loc), va_P D vwCl [(h0, tmC tv)] H → va_D A [(h0, tmC tv)] → va_S A s.heap H locs → ∀ (i1 : Int32) (i2 : Int32) (i3 : Int32) (s0 : Int32) (ls : Array Slot), lv_has ls 4 [(0, .ref h0), (1, .int i1), (2, .int i2), (3, .int i3)] → RES = xc_tsent_21 n1 n2 n3 tv i1 i2 i3 s0 → W p l e ({ frames := 2, cells := 0, slots := 0, locals := 42 }) s m #[(.ref h0 : Value), (.int n1 : Value), (.int n2 : Value), (.int n3 : Value)] below meth c H locs 0 0 QP (F0 m 21 ls [.int s0, .ref h0]) := by
    intro tv H locs hP hD hS i1 i2 i3 s0 ls hl hE
    unfold xc_tsent_21 at hE
    refine va_put (D := D) (ci := 9) (v := .int s0) (ty := .int) (C := RX9) (T := TX9) (N := 6) hx hb ha inlX9 tyX9 tyX9_ok nmX9 hown hK hP hD hS 0 rfl rfl 4 (by decide) (ha _ kf_X9_18) (fun _ h9 => h9) rfl (by decide +kernel) rfl rfl (Nat.le_of_ble_eq_true rfl) dX9_noteSent_21 (fun H locs hP hD hS => ?_)
    have hP : va_P D vwCl [(h0, tmC (upd tv 4 s0))] H := hP
    have hD : va_D A [(h0, tmC (upd tv 4 s0))] := hD
    generalize hg_14 : upd tv 4 s0 = tv at hP hD
    have hE := bs_at hg_14 hE
    refine lv_goto (tgt := 45) hx hb dX9_noteSent_24 (by decide) ?_
    exact J_45 tv _ _ hP hD hS i1 i2 i3 _ (lv_sub hl [0, 1, 2, 3] rfl) hE
  rw [hQP] at J_45
  rw [hQP] at J_21
  -- from the entry
  have hE := hRES
  unfold xc_tsent at hE
  refine lv_iload_n hx hb dX9_noteSent_0 rfl (lv_at hl 2 rfl) ?_
  refine lv_if_eq (tgt := 27) hx hb dX9_noteSent_1 (by decide) (fun c_15 => ?_) (fun c_15 => ?_)
  · have hE := hE.trans (if_pos c_15)
    refine lv_aload_n hx hb dX9_noteSent_27 rfl (lv_at hl 0 rfl) ?_
    refine va_get (D := D) (ci := 9) (v := .int (tv 4)) (C := RX9) (T := TX9) (N := 6) hx hb ha inlX9 hown hK hP 0 rfl rfl 4 (by decide) (ha _ kf_X9_18) (fun _ h9 => h9) rfl dX9_noteSent_28 ?_
    refine lv_topi (fun x_16 ex_16 => ?_)
    have hE := bd_at ex_16 hE
    refine lv_iconst (v := (-1)) hx hb dX9_noteSent_31 (by decide) ?_
    refine lv_icmp_ne (tgt := 45) hx hb dX9_noteSent_32 (by decide) (fun c_17 => ?_) (fun c_17 => ?_)
    · have hE := hE.trans (if_neg c_17)
      exact J_45 tv _ _ hP hD hS n1 n2 n3 _ (lv_sub hl [0, 1, 2, 3] rfl) hE
    · have hE := hE.trans (if_pos c_17)
      refine lv_aload_n hx hb dX9_noteSent_35 rfl (lv_at hl 0 rfl) ?_
      refine lv_iload_n hx hb dX9_noteSent_36 rfl (lv_at hl 1 rfl) ?_
      refine va_put (D := D) (ci := 9) (v := .int n1) (ty := .int) (C := RX9) (T := TX9) (N := 6) hx hb ha inlX9 tyX9 tyX9_ok nmX9 hown hK hP hD hS 0 rfl rfl 4 (by decide) (ha _ kf_X9_18) (fun _ h9 => h9) rfl (by decide +kernel) rfl rfl (Nat.le_of_ble_eq_true rfl) dX9_noteSent_37 (fun H locs hP hD hS => ?_)
      have hP : va_P D vwCl [(h0, tmC (upd tv 4 n1))] H := hP
      have hD : va_D A [(h0, tmC (upd tv 4 n1))] := hD
      generalize hg_18 : upd tv 4 n1 = tv at hP hD
      have hE := bs_at hg_18 hE
      refine lv_aload_n hx hb dX9_noteSent_40 rfl (lv_at hl 0 rfl) ?_
      refine lv_iload_n hx hb dX9_noteSent_41 rfl (lv_at hl 3 rfl) ?_
      refine va_put (D := D) (ci := 9) (v := .int n3) (ty := .int) (C := RX9) (T := TX9) (N := 6) hx hb ha inlX9 tyX9 tyX9_ok nmX9 hown hK hP hD hS 0 rfl rfl 5 (by decide) (ha _ kf_X9_32) (fun _ h9 => h9) rfl (by decide +kernel) rfl rfl (Nat.le_of_ble_eq_true rfl) dX9_noteSent_42 (fun H locs hP hD hS => ?_)
      have hP : va_P D vwCl [(h0, tmC (upd tv 5 n3))] H := hP
      have hD : va_D A [(h0, tmC (upd tv 5 n3))] := hD
      generalize hg_19 : upd tv 5 n3 = tv at hP hD
      have hE := bs_at hg_19 hE
      exact J_45 tv _ _ hP hD hS n1 n2 n3 _ (lv_sub hl [0, 1, 2, 3] rfl) hE
  · have hE := hE.trans (if_neg c_15)
    refine lv_aload_n hx hb dX9_noteSent_4 rfl (lv_at hl 0 rfl) ?_
    refine lv_iload_n hx hb dX9_noteSent_5 rfl (lv_at hl 1 rfl) ?_
    refine lv_aload_n hx hb dX9_noteSent_6 rfl (lv_at hl 0 rfl) ?_
    refine va_get (D := D) (ci := 9) (v := .int (tv 4)) (C := RX9) (T := TX9) (N := 6) hx hb ha inlX9 hown hK hP 0 rfl rfl 4 (by decide) (ha _ kf_X9_18) (fun _ h9 => h9) rfl dX9_noteSent_7 ?_
    refine lv_topi (fun x_20 ex_20 => ?_)
    have hE := bd_at ex_20 hE
    refine lv_icmp_ne (tgt := 17) hx hb dX9_noteSent_10 (by decide) (fun c_21 => ?_) (fun c_21 => ?_)
    · have hE := hE.trans (if_neg c_21)
      refine lv_aload_n hx hb dX9_noteSent_17 rfl (lv_at hl 0 rfl) ?_
      refine va_get (D := D) (ci := 9) (v := .int (tv 4)) (C := RX9) (T := TX9) (N := 6) hx hb ha inlX9 hown hK hP 0 rfl rfl 4 (by decide) (ha _ kf_X9_18) (fun _ h9 => h9) rfl dX9_noteSent_18 ?_
      refine lv_topi (fun x_22 ex_22 => ?_)
      have hE := bd_at ex_22 hE
      exact J_21 tv _ _ hP hD hS n1 n2 n3 x_22 _ (lv_sub hl [0, 1, 2, 3] rfl) hE
    · have hE := hE.trans (if_pos c_21)
      refine lv_iconst (v := (-1)) hx hb dX9_noteSent_13 (by decide) ?_
      refine lv_goto (tgt := 21) hx hb dX9_noteSent_14 (by decide) ?_
      exact J_21 tv _ _ hP hD hS n1 n2 n3 (-1) _ (lv_sub hl [0, 1, 2, 3] rfl) hE

set_option maxRecDepth 100000 in
def xc_tlearn_71 (n1 : Int32) (tv : Nat → Int32) (i1 : Int32) : (Nat → Int32) := bd (tv 1) (fun v1 => bd (v1 / (8 : Int32)) (fun v2 => bd (tv 2) (fun v3 => bd (if (1 : Int32) < v3 then v3 else (1 : Int32)) (fun v4 => bd (v2 + v4) (fun v5 => bd (if (200 : Int32) < v5 then v5 else (200 : Int32)) (fun v6 => bd (if v6 < (60000 : Int32) then v6 else (60000 : Int32)) (fun v7 => bd (upd tv 0 v7) (fun tv => (tv)))))))))
set_option maxRecDepth 100000 in
def xc_tlearn (tv : Nat → Int32) (n1 : Int32) : (Nat → Int32) := bd (tv 1) (fun v8 => (if v8 = (0 : Int32) then bd ((8 : Int32) * n1) (fun v23 => bd (upd tv 1 v23) (fun tv => bd ((2 : Int32) * n1) (fun v24 => bd (upd tv 2 v24) (fun tv => xc_tlearn_71 n1 tv n1)))) else bd (tv 2) (fun v9 => bd (tv 2) (fun v10 => bd (v10 / (4 : Int32)) (fun v11 => bd (v9 - v11) (fun v12 => bd (tv 1) (fun v13 => bd (v13 / (8 : Int32)) (fun v14 => bd (v14 - n1) (fun v15 => bd (if 0 ≤ v15 then v15 else 0 - v15) (fun v16 => bd (v12 + v16) (fun v17 => bd (upd tv 2 v17) (fun tv => bd (tv 1) (fun v18 => bd (tv 1) (fun v19 => bd (v19 / (8 : Int32)) (fun v20 => bd (v18 - v20) (fun v21 => bd (v21 + n1) (fun v22 => bd (upd tv 1 v22) (fun tv => xc_tlearn_71 n1 tv n1))))))))))))))))))
set_option maxHeartbeats 4000000 in
set_option maxRecDepth 100000 in
theorem s_tlearn (l : Launch) (D : va_G) (cI cJ cZ cO : ClassId) (sz : Nat) (h0 : Nat) (tv : Nat → Int32) (n1 : Int32) : Met l yX9_learn (wa yX9_learn cX9_learn 3 none) ({ frames := 1, cells := 0, slots := 0, locals := 40 }) (va_Pc [.ref h0, .int n1] (pw_s D cI cJ cZ cO sz [(h0, tmC tv)])) (va_Qv (fun (_ : Unit) => True) (fun (_ : Unit) (t : State) => ∃ (tv2 : Nat → Int32), (tv2 = (xc_tlearn tv n1)) ∧ pw_t D cI cJ cZ cO (va_A [(h0, tmC tv)] sz) [(h0, tmC tv2)] t) (va_A [(h0, tmC tv)] sz)) 0 0 (va_A [(h0, tmC tv)] sz) := by
  refine Met.ofW (cc := cX9_learn) (maxL := 3) (ret := none) (by decide) rfl ?_
  intro p e s m args below meth c s₁ B hml hv
  obtain ⟨rfl, hsz, hP, hK, hD0, hN⟩ := hv
  have hx := B.exec
  have hb := B.bytes
  have hr := B.returns
  have hts := atoms_spec (ws := (wa yX9_learn cX9_learn 3 none)) B.pre
  have ha : ∀ w ∈ wsL_law, w.before _ s = true := fun w h => hts w (List.mem_cons_of_mem _ h)
  have hown : s.vm.findClass RX9 = some m.cls := findClass_of_methodNamed B.named
  have hlocks := B.notSynchronized
  subst hsz
  have hD := hD0.self (sz := s.heap.size)
  generalize hAe : va_A [(h0, tmC tv)] s.heap.size = A at hD ⊢
  have hA : ∀ q : Nat, s.heap.size ≤ q → A q := fun q h => by rw [← hAe]; exact Or.inr h
  have hS : va_S A s.heap s.heap [] := va_S.rf
  have hP : va_P D vwCl [(h0, tmC tv)] s.heap := hP
  have hl := lv_entry ([.ref h0, .int n1]) (n := 3) (Nat.le_of_ble_eq_true rfl)
  rw [lg_entry_eq]
  generalize (lg_sl ([.ref h0, .int n1]) ++ List.replicate (3 - (lg_sl ([.ref h0, .int n1])).length) Slot.unset).toArray = ls at hl ⊢
  have hl : lv_has ls 3 [(0, .ref h0), (1, .int n1)] := hl
  obtain ⟨QP, hQP⟩ : ∃ y : State → Prop, y = (MQ below (va_Qv (fun (_ : Unit) => True) (fun (_ : Unit) (t : State) => ∃ (tv2 : Nat → Int32), (tv2 = (xc_tlearn tv n1)) ∧ pw_t D cI cJ cZ cO A [(h0, tmC tv2)] t) A) #[(.ref h0 : Value), (.int n1 : Value)] s 0 0 A) := ⟨_, rfl⟩
  obtain ⟨RES, hRES⟩ : ∃ y, y = (xc_tlearn tv n1) := ⟨_, rfl⟩
  have J_71 : ∀ (tv : Nat → Int32) (H : Heap) (locs : List Loc), va_P D vwCl [(h0, tmC tv)] H → va_D A [(h0, tmC tv)] → va_S A s.heap H locs → ∀ (i1 : Int32) (ls : Array Slot), lv_has ls 3 [(0, .ref h0), (1, .int i1)] → RES = xc_tlearn_71 n1 tv i1 → W p l e ({ frames := 1, cells := 0, slots := 0, locals := 40 }) s m #[(.ref h0 : Value), (.int n1 : Value)] below meth c H locs 0 0 QP (F0 m 71 ls []) := by
    intro tv H locs hP hD hS i1 ls hl hE
    unfold xc_tlearn_71 at hE
    refine lv_aload_n hx hb dX9_learn_71 rfl (lv_at hl 0 rfl) ?_
    refine va_get (D := D) (ci := 9) (v := .int (tv 1)) (C := RX9) (T := TX9) (N := 6) hx hb ha inlX9 hown hK hP 0 rfl rfl 1 (by decide) (ha _ kf_X9_41) (fun _ h9 => h9) rfl dX9_learn_72 ?_
    refine lv_topi (fun x_31 ex_31 => ?_)
    have hE := bd_at ex_31 hE
    refine lv_bipush (v := 8) hx hb dX9_learn_75 (by decide) ?_
    refine lv_idiv hx hb dX9_learn_77 (by decide) ?_
    refine lv_topi (fun x_32 ex_32 => ?_)
    have hE := bd_at ex_32 hE
    refine lv_iconst (v := 1) hx hb dX9_learn_78 (by decide) ?_
    refine lv_aload_n hx hb dX9_learn_79 rfl (lv_at hl 0 rfl) ?_
    refine va_get (D := D) (ci := 9) (v := .int (tv 2)) (C := RX9) (T := TX9) (N := 6) hx hb ha inlX9 hown hK hP 0 rfl rfl 2 (by decide) (ha _ kf_X9_44) (fun _ h9 => h9) rfl dX9_learn_80 ?_
    refine lv_topi (fun x_33 ex_33 => ?_)
    have hE := bd_at ex_33 hE
    refine va_mmax hx hb (hml.trans hl.1.symm) hown (ha _ kl_X9_51) (ha _ kt_max) (ha _ kz_J9) (ha _ kd_max) (Nat.le_of_ble_eq_true rfl) (Nat.le_of_ble_eq_true rfl) (Nat.le_of_ble_eq_true rfl) (Nat.le_of_ble_eq_true rfl) dX9_learn_83 ?_
    refine lv_topi (fun x_34 ex_34 => ?_)
    have hE := bd_at ex_34 hE
    have nz_x_34 : ¬ x_34 = 0 := sw_mx1 ex_34
    refine lv_iadd hx hb dX9_learn_86 ?_
    refine lv_topi (fun x_35 ex_35 => ?_)
    have hE := bd_at ex_35 hE
    refine lv_istore_n (lv' := [(2, .int x_35), (0, .ref h0), (1, .int i1)]) hx hb dX9_learn_87 rfl hl (by decide) rfl (fun ls hl => ?_)
    refine lv_aload_n hx hb dX9_learn_88 rfl (lv_at hl 1 rfl) ?_
    refine lv_ldc (v := 60000) hx hb hown (ha _ kk_X9_25) dX9_learn_89 ?_
    refine lv_sipush (v := 200) hx hb dX9_learn_91 (by decide) ?_
    refine lv_iload_n hx hb dX9_learn_94 rfl (lv_at hl 0 rfl) ?_
    refine va_mmax hx hb (hml.trans hl.1.symm) hown (ha _ kl_X9_51) (ha _ kt_max) (ha _ kz_J9) (ha _ kd_max) (Nat.le_of_ble_eq_true rfl) (Nat.le_of_ble_eq_true rfl) (Nat.le_of_ble_eq_true rfl) (Nat.le_of_ble_eq_true rfl) dX9_learn_95 ?_
    refine lv_topi (fun x_36 ex_36 => ?_)
    have hE := bd_at ex_36 hE
    refine va_mmin hx hb (hml.trans hl.1.symm) hown (ha _ kl_X9_26) (ha _ kt_min) (ha _ kz_J9) (ha _ kd_min) (Nat.le_of_ble_eq_true rfl) (Nat.le_of_ble_eq_true rfl) (Nat.le_of_ble_eq_true rfl) (Nat.le_of_ble_eq_true rfl) dX9_learn_98 ?_
    refine lv_topi (fun x_37 ex_37 => ?_)
    have hE := bd_at ex_37 hE
    refine va_put (D := D) (ci := 9) (v := .int x_37) (ty := .int) (C := RX9) (T := TX9) (N := 6) hx hb ha inlX9 tyX9 tyX9_ok nmX9 hown hK hP hD hS 0 rfl rfl 0 (by decide) (ha _ kf_X9_9) (fun _ h9 => h9) rfl (by decide +kernel) rfl rfl (Nat.le_of_ble_eq_true rfl) dX9_learn_101 (fun H locs hP hD hS => ?_)
    have hP : va_P D vwCl [(h0, tmC (upd tv 0 x_37))] H := hP
    have hD : va_D A [(h0, tmC (upd tv 0 x_37))] := hD
    generalize hg_38 : upd tv 0 x_37 = tv at hP hD
    have hE := bs_at hg_38 hE
    rw [hQP]
    have hP9 := hP.sub (ws' := [(h0, tmC tv)]) [0] rfl
    have hD9 := hD.sub (ws' := [(h0, tmC tv)]) [0] (by decide) rfl
    exact W.vret hx hb hr (fun t ht hW => ⟨⟨(), rfl, trivial, ⟨tv, (by rw [← hRES, hE]), by rw [ht]; exact hP9, va_K.moved hW.alike hK, hD9⟩⟩, hS.F ht⟩) hS.2.2 dX9_learn_104
  rw [hQP] at J_71
  -- from the entry
  have hE := hRES
  unfold xc_tlearn at hE
  refine lv_aload_n hx hb dX9_learn_0 rfl (lv_at hl 0 rfl) ?_
  refine va_get (D := D) (ci := 9) (v := .int (tv 1)) (C := RX9) (T := TX9) (N := 6) hx hb ha inlX9 hown hK hP 0 rfl rfl 1 (by decide) (ha _ kf_X9_41) (fun _ h9 => h9) rfl dX9_learn_1 ?_
  refine lv_topi (fun x_39 ex_39 => ?_)
  have hE := bd_at ex_39 hE
  refine lv_if_ne (tgt := 25) hx hb dX9_learn_4 (by decide) (fun c_40 => ?_) (fun c_40 => ?_)
  · have hE := hE.trans (if_neg c_40)
    refine lv_aload_n hx hb dX9_learn_25 rfl (lv_at hl 0 rfl) ?_
    refine lv_aload_n hx hb dX9_learn_26 rfl (lv_at hl 0 rfl) ?_
    refine va_get (D := D) (ci := 9) (v := .int (tv 2)) (C := RX9) (T := TX9) (N := 6) hx hb ha inlX9 hown hK hP 0 rfl rfl 2 (by decide) (ha _ kf_X9_44) (fun _ h9 => h9) rfl dX9_learn_27 ?_
    refine lv_topi (fun x_41 ex_41 => ?_)
    have hE := bd_at ex_41 hE
    refine lv_aload_n hx hb dX9_learn_30 rfl (lv_at hl 0 rfl) ?_
    refine va_get (D := D) (ci := 9) (v := .int (tv 2)) (C := RX9) (T := TX9) (N := 6) hx hb ha inlX9 hown hK hP 0 rfl rfl 2 (by decide) (ha _ kf_X9_44) (fun _ h9 => h9) rfl dX9_learn_31 ?_
    refine lv_topi (fun x_42 ex_42 => ?_)
    have hE := bd_at ex_42 hE
    refine lv_iconst (v := 4) hx hb dX9_learn_34 (by decide) ?_
    refine lv_idiv hx hb dX9_learn_35 (by decide) ?_
    refine lv_topi (fun x_43 ex_43 => ?_)
    have hE := bd_at ex_43 hE
    refine lv_isub hx hb dX9_learn_36 ?_
    refine lv_topi (fun x_44 ex_44 => ?_)
    have hE := bd_at ex_44 hE
    refine lv_aload_n hx hb dX9_learn_37 rfl (lv_at hl 0 rfl) ?_
    refine va_get (D := D) (ci := 9) (v := .int (tv 1)) (C := RX9) (T := TX9) (N := 6) hx hb ha inlX9 hown hK hP 0 rfl rfl 1 (by decide) (ha _ kf_X9_41) (fun _ h9 => h9) rfl dX9_learn_38 ?_
    refine lv_topi (fun x_45 ex_45 => ?_)
    have hE := bd_at ex_45 hE
    refine lv_bipush (v := 8) hx hb dX9_learn_41 (by decide) ?_
    refine lv_idiv hx hb dX9_learn_43 (by decide) ?_
    refine lv_topi (fun x_46 ex_46 => ?_)
    have hE := bd_at ex_46 hE
    refine lv_iload_n hx hb dX9_learn_44 rfl (lv_at hl 1 rfl) ?_
    refine lv_isub hx hb dX9_learn_45 ?_
    refine lv_topi (fun x_47 ex_47 => ?_)
    have hE := bd_at ex_47 hE
    refine va_mabs hx hb (hml.trans hl.1.symm) hown (ha _ kl_X9_47) (ha _ kt_abs) (ha _ kz_J9) (ha _ kd_abs) (Nat.le_of_ble_eq_true rfl) (Nat.le_of_ble_eq_true rfl) (Nat.le_of_ble_eq_true rfl) (Nat.le_of_ble_eq_true rfl) dX9_learn_46 ?_
    refine lv_topi (fun x_48 ex_48 => ?_)
    have hE := bd_at ex_48 hE
    refine lv_iadd hx hb dX9_learn_49 ?_
    refine lv_topi (fun x_49 ex_49 => ?_)
    have hE := bd_at ex_49 hE
    refine va_put (D := D) (ci := 9) (v := .int x_49) (ty := .int) (C := RX9) (T := TX9) (N := 6) hx hb ha inlX9 tyX9 tyX9_ok nmX9 hown hK hP hD hS 0 rfl rfl 2 (by decide) (ha _ kf_X9_44) (fun _ h9 => h9) rfl (by decide +kernel) rfl rfl (Nat.le_of_ble_eq_true rfl) dX9_learn_50 (fun H locs hP hD hS => ?_)
    have hP : va_P D vwCl [(h0, tmC (upd tv 2 x_49))] H := hP
    have hD : va_D A [(h0, tmC (upd tv 2 x_49))] := hD
    generalize hg_50 : upd tv 2 x_49 = tv at hP hD
    have hE := bs_at hg_50 hE
    refine lv_aload_n hx hb dX9_learn_53 rfl (lv_at hl 0 rfl) ?_
    refine lv_aload_n hx hb dX9_learn_54 rfl (lv_at hl 0 rfl) ?_
    refine va_get (D := D) (ci := 9) (v := .int (tv 1)) (C := RX9) (T := TX9) (N := 6) hx hb ha inlX9 hown hK hP 0 rfl rfl 1 (by decide) (ha _ kf_X9_41) (fun _ h9 => h9) rfl dX9_learn_55 ?_
    refine lv_topi (fun x_51 ex_51 => ?_)
    have hE := bd_at ex_51 hE
    refine lv_aload_n hx hb dX9_learn_58 rfl (lv_at hl 0 rfl) ?_
    refine va_get (D := D) (ci := 9) (v := .int (tv 1)) (C := RX9) (T := TX9) (N := 6) hx hb ha inlX9 hown hK hP 0 rfl rfl 1 (by decide) (ha _ kf_X9_41) (fun _ h9 => h9) rfl dX9_learn_59 ?_
    refine lv_topi (fun x_52 ex_52 => ?_)
    have hE := bd_at ex_52 hE
    refine lv_bipush (v := 8) hx hb dX9_learn_62 (by decide) ?_
    refine lv_idiv hx hb dX9_learn_64 (by decide) ?_
    refine lv_topi (fun x_53 ex_53 => ?_)
    have hE := bd_at ex_53 hE
    refine lv_isub hx hb dX9_learn_65 ?_
    refine lv_topi (fun x_54 ex_54 => ?_)
    have hE := bd_at ex_54 hE
    refine lv_iload_n hx hb dX9_learn_66 rfl (lv_at hl 1 rfl) ?_
    refine lv_iadd hx hb dX9_learn_67 ?_
    refine lv_topi (fun x_55 ex_55 => ?_)
    have hE := bd_at ex_55 hE
    refine va_put (D := D) (ci := 9) (v := .int x_55) (ty := .int) (C := RX9) (T := TX9) (N := 6) hx hb ha inlX9 tyX9 tyX9_ok nmX9 hown hK hP hD hS 0 rfl rfl 1 (by decide) (ha _ kf_X9_41) (fun _ h9 => h9) rfl (by decide +kernel) rfl rfl (Nat.le_of_ble_eq_true rfl) dX9_learn_68 (fun H locs hP hD hS => ?_)
    have hP : va_P D vwCl [(h0, tmC (upd tv 1 x_55))] H := hP
    have hD : va_D A [(h0, tmC (upd tv 1 x_55))] := hD
    generalize hg_56 : upd tv 1 x_55 = tv at hP hD
    have hE := bs_at hg_56 hE
    exact J_71 tv _ _ hP hD hS n1 _ (lv_sub hl [0, 1] rfl) hE
  · have hE := hE.trans (if_pos c_40)
    refine lv_aload_n hx hb dX9_learn_7 rfl (lv_at hl 0 rfl) ?_
    refine lv_bipush (v := 8) hx hb dX9_learn_8 (by decide) ?_
    refine lv_iload_n hx hb dX9_learn_10 rfl (lv_at hl 1 rfl) ?_
    refine lv_imul hx hb dX9_learn_11 ?_
    refine lv_topi (fun x_57 ex_57 => ?_)
    have hE := bd_at ex_57 hE
    refine va_put (D := D) (ci := 9) (v := .int x_57) (ty := .int) (C := RX9) (T := TX9) (N := 6) hx hb ha inlX9 tyX9 tyX9_ok nmX9 hown hK hP hD hS 0 rfl rfl 1 (by decide) (ha _ kf_X9_41) (fun _ h9 => h9) rfl (by decide +kernel) rfl rfl (Nat.le_of_ble_eq_true rfl) dX9_learn_12 (fun H locs hP hD hS => ?_)
    have hP : va_P D vwCl [(h0, tmC (upd tv 1 x_57))] H := hP
    have hD : va_D A [(h0, tmC (upd tv 1 x_57))] := hD
    generalize hg_58 : upd tv 1 x_57 = tv at hP hD
    have hE := bs_at hg_58 hE
    refine lv_aload_n hx hb dX9_learn_15 rfl (lv_at hl 0 rfl) ?_
    refine lv_iconst (v := 2) hx hb dX9_learn_16 (by decide) ?_
    refine lv_iload_n hx hb dX9_learn_17 rfl (lv_at hl 1 rfl) ?_
    refine lv_imul hx hb dX9_learn_18 ?_
    refine lv_topi (fun x_59 ex_59 => ?_)
    have hE := bd_at ex_59 hE
    refine va_put (D := D) (ci := 9) (v := .int x_59) (ty := .int) (C := RX9) (T := TX9) (N := 6) hx hb ha inlX9 tyX9 tyX9_ok nmX9 hown hK hP hD hS 0 rfl rfl 2 (by decide) (ha _ kf_X9_44) (fun _ h9 => h9) rfl (by decide +kernel) rfl rfl (Nat.le_of_ble_eq_true rfl) dX9_learn_19 (fun H locs hP hD hS => ?_)
    have hP : va_P D vwCl [(h0, tmC (upd tv 2 x_59))] H := hP
    have hD : va_D A [(h0, tmC (upd tv 2 x_59))] := hD
    generalize hg_60 : upd tv 2 x_59 = tv at hP hD
    have hE := bs_at hg_60 hE
    refine lv_goto (tgt := 71) hx hb dX9_learn_22 (by decide) ?_
    exact J_71 tv _ _ hP hD hS n1 _ (lv_sub hl [0, 1] rfl) hE

set_option maxRecDepth 100000 in
def xc_ttold (tv : Nat → Int32) (n1 : Int32) (n2 : Int32) : (Nat → Int32) := bd (tv 4) (fun v1 => (if v1 = ((-1) : Int32) then (tv) else bd (tv 4) (fun v2 => (if n1 ≤ v2 then (tv) else bd (upd tv 4 ((-1) : Int32)) (fun tv => bd (tv 5) (fun v3 => bd (n2 - v3) (fun v4 => bd (xc_tlearn tv v4) (fun t5 => bd (t5) (fun tv => (tv))))))))))
set_option maxHeartbeats 4000000 in
set_option maxRecDepth 100000 in
theorem s_ttold (l : Launch) (D : va_G) (cI cJ cZ cO : ClassId) (sz : Nat) (h0 : Nat) (tv : Nat → Int32) (n1 n2 : Int32) : Met l yX9_noteTold (wa yX9_noteTold cX9_noteTold 3 none) ({ frames := 2, cells := 0, slots := 0, locals := 62 }) (va_Pc [.ref h0, .int n1, .int n2] (pw_s D cI cJ cZ cO sz [(h0, tmC tv)])) (va_Qv (fun (_ : Unit) => True) (fun (_ : Unit) (t : State) => ∃ (tv2 : Nat → Int32), (tv2 = (xc_ttold tv n1 n2)) ∧ pw_t D cI cJ cZ cO (va_A [(h0, tmC tv)] sz) [(h0, tmC tv2)] t) (va_A [(h0, tmC tv)] sz)) 0 0 (va_A [(h0, tmC tv)] sz) := by
  refine Met.ofW (cc := cX9_noteTold) (maxL := 3) (ret := none) (by decide) rfl ?_
  intro p e s m args below meth c s₁ B hml hv
  obtain ⟨rfl, hsz, hP, hK, hD0, hN⟩ := hv
  have hx := B.exec
  have hb := B.bytes
  have hr := B.returns
  have hts := atoms_spec (ws := (wa yX9_noteTold cX9_noteTold 3 none)) B.pre
  have ha : ∀ w ∈ wsL_law, w.before _ s = true := fun w h => hts w (List.mem_cons_of_mem _ h)
  have hown : s.vm.findClass RX9 = some m.cls := findClass_of_methodNamed B.named
  have hlocks := B.notSynchronized
  subst hsz
  have hD := hD0.self (sz := s.heap.size)
  generalize hAe : va_A [(h0, tmC tv)] s.heap.size = A at hD ⊢
  have hA : ∀ q : Nat, s.heap.size ≤ q → A q := fun q h => by rw [← hAe]; exact Or.inr h
  have hS : va_S A s.heap s.heap [] := va_S.rf
  have hP : va_P D vwCl [(h0, tmC tv)] s.heap := hP
  have hl := lv_entry ([.ref h0, .int n1, .int n2]) (n := 3) (Nat.le_of_ble_eq_true rfl)
  rw [lg_entry_eq]
  generalize (lg_sl ([.ref h0, .int n1, .int n2]) ++ List.replicate (3 - (lg_sl ([.ref h0, .int n1, .int n2])).length) Slot.unset).toArray = ls at hl ⊢
  have hl : lv_has ls 3 [(0, .ref h0), (1, .int n1), (2, .int n2)] := hl
  obtain ⟨QP, hQP⟩ : ∃ y : State → Prop, y = (MQ below (va_Qv (fun (_ : Unit) => True) (fun (_ : Unit) (t : State) => ∃ (tv2 : Nat → Int32), (tv2 = (xc_ttold tv n1 n2)) ∧ pw_t D cI cJ cZ cO A [(h0, tmC tv2)] t) A) #[(.ref h0 : Value), (.int n1 : Value), (.int n2 : Value)] s 0 0 A) := ⟨_, rfl⟩
  obtain ⟨RES, hRES⟩ : ∃ y, y = (xc_ttold tv n1 n2) := ⟨_, rfl⟩
  -- from the entry
  have hE := hRES
  unfold xc_ttold at hE
  refine lv_aload_n hx hb dX9_noteTold_0 rfl (lv_at hl 0 rfl) ?_
  refine va_get (D := D) (ci := 9) (v := .int (tv 4)) (C := RX9) (T := TX9) (N := 6) hx hb ha inlX9 hown hK hP 0 rfl rfl 4 (by decide) (ha _ kf_X9_18) (fun _ h9 => h9) rfl dX9_noteTold_1 ?_
  refine lv_topi (fun x_10 ex_10 => ?_)
  have hE := bd_at ex_10 hE
  refine lv_iconst (v := (-1)) hx hb dX9_noteTold_4 (by decide) ?_
  refine lv_icmp_eq (tgt := 31) hx hb dX9_noteTold_5 (by decide) (fun c_11 => ?_) (fun c_11 => ?_)
  · have hE := hE.trans (if_pos c_11)
    have hP9 := hP.sub (ws' := [(h0, tmC tv)]) [0] rfl
    have hD9 := hD.sub (ws' := [(h0, tmC tv)]) [0] (by decide) rfl
    exact W.vret hx hb hr (fun t ht hW => ⟨⟨(), rfl, trivial, ⟨tv, (by rw [← hRES, hE]), by rw [ht]; exact hP9, va_K.moved hW.alike hK, hD9⟩⟩, hS.F ht⟩) hS.2.2 dX9_noteTold_31
  · have hE := hE.trans (if_neg c_11)
    refine lv_iload_n hx hb dX9_noteTold_8 rfl (lv_at hl 1 rfl) ?_
    refine lv_aload_n hx hb dX9_noteTold_9 rfl (lv_at hl 0 rfl) ?_
    refine va_get (D := D) (ci := 9) (v := .int (tv 4)) (C := RX9) (T := TX9) (N := 6) hx hb ha inlX9 hown hK hP 0 rfl rfl 4 (by decide) (ha _ kf_X9_18) (fun _ h9 => h9) rfl dX9_noteTold_10 ?_
    refine lv_topi (fun x_12 ex_12 => ?_)
    have hE := bd_at ex_12 hE
    refine lv_icmp_le (tgt := 31) hx hb dX9_noteTold_13 (by decide) (fun c_13 => ?_) (fun c_13 => ?_)
    · have hE := hE.trans (if_pos c_13)
      have hP9 := hP.sub (ws' := [(h0, tmC tv)]) [0] rfl
      have hD9 := hD.sub (ws' := [(h0, tmC tv)]) [0] (by decide) rfl
      exact W.vret hx hb hr (fun t ht hW => ⟨⟨(), rfl, trivial, ⟨tv, (by rw [← hRES, hE]), by rw [ht]; exact hP9, va_K.moved hW.alike hK, hD9⟩⟩, hS.F ht⟩) hS.2.2 dX9_noteTold_31
    · have hE := hE.trans (if_neg c_13)
      refine lv_aload_n hx hb dX9_noteTold_16 rfl (lv_at hl 0 rfl) ?_
      refine lv_iconst (v := (-1)) hx hb dX9_noteTold_17 (by decide) ?_
      refine va_put (D := D) (ci := 9) (v := .int (-1)) (ty := .int) (C := RX9) (T := TX9) (N := 6) hx hb ha inlX9 tyX9 tyX9_ok nmX9 hown hK hP hD hS 0 rfl rfl 4 (by decide) (ha _ kf_X9_18) (fun _ h9 => h9) rfl (by decide +kernel) rfl rfl (Nat.le_of_ble_eq_true rfl) dX9_noteTold_18 (fun H locs hP hD hS => ?_)
      have hP : va_P D vwCl [(h0, tmC (upd tv 4 (-1)))] H := hP
      have hD : va_D A [(h0, tmC (upd tv 4 (-1)))] := hD
      generalize hg_14 : upd tv 4 (-1) = tv at hP hD
      have hE := bs_at hg_14 hE
      refine lv_aload_n hx hb dX9_noteTold_21 rfl (lv_at hl 0 rfl) ?_
      refine lv_iload_n hx hb dX9_noteTold_22 rfl (lv_at hl 2 rfl) ?_
      refine lv_aload_n hx hb dX9_noteTold_23 rfl (lv_at hl 0 rfl) ?_
      refine va_get (D := D) (ci := 9) (v := .int (tv 5)) (C := RX9) (T := TX9) (N := 6) hx hb ha inlX9 hown hK hP 0 rfl rfl 5 (by decide) (ha _ kf_X9_32) (fun _ h9 => h9) rfl dX9_noteTold_24 ?_
      refine lv_topi (fun x_15 ex_15 => ?_)
      have hE := bd_at ex_15 hE
      refine lv_isub hx hb dX9_noteTold_27 ?_
      refine lv_topi (fun x_16 ex_16 => ?_)
      have hE := bd_at ex_16 hE
      have hPc := hP.sub (ws' := [(h0, tmC tv)]) [0] rfl
      have hDc := hD.sub (ws' := [(h0, tmC tv)]) [0] (by decide) rfl
      have hFc := va_free (wc := [(h0, tmC tv)]) hD hS hA [0] rfl
      refine va_callv (va_runV (As := [.int x_16]) (rest := []) ⟨hx, hb, hml, hown, ha⟩ (s_tlearn l D cI cJ cZ cO _ h0 tv x_16) (cwV 1 ha (gaV kl_X9_38 km_X9_learn ks_X9_learn kz_X9 kd_X9_learn) rfl rfl rfl (by decide +kernel) ⟨Nat.le_of_ble_eq_true rfl, Nat.le_of_ble_eq_true rfl⟩) ⟨pw_blind, va_recv hK hPc (ci := 9) (q0 := 0) rfl rfl, fun U hU hW => ⟨rfl, pw_start hU hW hPc hK hDc hN⟩⟩ rfl rfl hl.1 rfl (lv_room (Nat.le_of_ble_eq_true rfl)) dX9_noteTold_28 ⟨Nat.le_of_ble_eq_true rfl, Nat.le_of_ble_eq_true rfl⟩) hS (fun q _ h => hFc q h) hFc (fun u t H1 locs ht hvm hw hB hz1 hk1 hS => ?_)
      obtain ⟨tv, hX0, hP1, hK1, hD1⟩ := hB
      have hE := bd_at rfl hE
      have hE := bd_at hX0 hE
      rw [ht] at hP1
      obtain ⟨hP, hD⟩ := va_join (wr := []) (w1 := [(h0, tmC tv)]) hP hD [0] [] rfl rfl (by decide) (by decide) hk1 hFc hP1 hD1
      generalize H1 = H at hP hS ⊢
      have hP : va_P D vwCl [(h0, tmC tv)] H := hP
      have hD : va_D A [(h0, tmC tv)] := hD
      refine W.widen (k := 0) (n := 0) (Nat.le_of_ble_eq_true rfl) (Nat.le_of_ble_eq_true rfl) ?_
      have hP9 := hP.sub (ws' := [(h0, tmC tv)]) [0] rfl
      have hD9 := hD.sub (ws' := [(h0, tmC tv)]) [0] (by decide) rfl
      exact W.vret hx hb hr (fun t ht hW => ⟨⟨(), rfl, trivial, ⟨tv, (by rw [← hRES, hE]), by rw [ht]; exact hP9, va_K.moved hW.alike hK, hD9⟩⟩, hS.F ht⟩) hS.2.2 dX9_noteTold_31

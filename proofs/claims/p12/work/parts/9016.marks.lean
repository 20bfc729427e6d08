set_option maxRecDepth 100000 in
def xc_has (f : Nat → Int64) (n : Int32) : (Nat → Int64) × Int32 := bd (n >>> ((6 : Int32) &&& 31)) (fun v1 => bd (v1 &&& (3 : Int32)) (fun v2 => bd (f v2.toNatClampNeg) (fun w3 => bd (n &&& (63 : Int32)) (fun v4 => bd ((w3.toUInt64 >>> (v4.toInt64.toUInt64 &&& Int64.toUInt64 63)).toInt64) (fun w5 => bd (w5 &&& (1 : Int64)) (fun w6 => bd (lg_cmp w6 (0 : Int64)) (fun v7 => (if v7 = (0 : Int32) then (f, (0 : Int32)) else (f, (1 : Int32))))))))))
set_option maxHeartbeats 4000000 in
set_option maxRecDepth 100000 in
theorem s_has (l : Launch) (D : va_G) (cI cJ cZ cO : ClassId) (sz : Nat) (h0 h1 : Nat) (f : Nat → Int64) (n : Int32) : Met l yX4_has (wa yX4_has cX4_has 2 (some .boolean)) ({ frames := 0, cells := 0, slots := 0, locals := 0 }) (va_Pc [.ref h0, .int n] (pw_s D cI cJ cZ cO sz [(h0, mkC h1), (h1, .inl (cJ, 4, .inr (.inl f)))])) (va_Qi (fun (r : Int32) (_ : Unit) => ((r = 0 ∨ r = 1) ∧ r = (xc_has f n).2)) (fun (_ : Unit) (t : State) => ∃ (f2 : Nat → Int64), (f2 = (xc_has f n).1) ∧ pw_t D cI cJ cZ cO (va_A [(h0, mkC h1), (h1, .inl (cJ, 4, .inr (.inl f)))] sz) [(h0, mkC h1), (h1, .inl (cJ, 4, .inr (.inl f2)))] t) (va_A [(h0, mkC h1), (h1, .inl (cJ, 4, .inr (.inl f)))] sz)) 0 0 (va_A [(h0, mkC h1), (h1, .inl (cJ, 4, .inr (.inl f)))] sz) := by
  refine Met.ofW (cc := cX4_has) (maxL := 2) (ret := (some .boolean)) (by decide) rfl ?_
  intro p e s m args below meth c s₁ B hml hv
  obtain ⟨rfl, hsz, hP, hK, hD0, hN⟩ := hv
  have hx := B.exec
  have hb := B.bytes
  have hr := B.returns
  have hts := atoms_spec (ws := (wa yX4_has cX4_has 2 (some .boolean))) B.pre
  have ha : ∀ w ∈ wsL_law, w.before _ s = true := fun w h => hts w (List.mem_cons_of_mem _ h)
  have hown : s.vm.findClass RX4 = some m.cls := findClass_of_methodNamed B.named
  have hlocks := B.notSynchronized
  subst hsz
  have hD := hD0.self (sz := s.heap.size)
  generalize hAe : va_A [(h0, mkC h1), (h1, .inl (cJ, 4, .inr (.inl f)))] s.heap.size = A at hD ⊢
  have hA : ∀ q : Nat, s.heap.size ≤ q → A q := fun q h => by rw [← hAe]; exact Or.inr h
  have hS : va_S A s.heap s.heap [] := va_S.rf
  have hP : va_P D vwCl [(h0, mkC h1), (h1, .inl (cJ, 4, .inr (.inl f)))] s.heap := hP
  have hl := lv_entry ([.ref h0, .int n]) (n := 2) (Nat.le_of_ble_eq_true rfl)
  rw [lg_entry_eq]
  generalize (lg_sl ([.ref h0, .int n]) ++ List.replicate (2 - (lg_sl ([.ref h0, .int n])).length) Slot.unset).toArray = ls at hl ⊢
  have hl : lv_has ls 2 [(0, .ref h0), (1, .int n)] := hl
  obtain ⟨QP, hQP⟩ : ∃ y : State → Prop, y = (MQ below (va_Qi (fun (r : Int32) (_ : Unit) => ((r = 0 ∨ r = 1) ∧ r = (xc_has f n).2)) (fun (_ : Unit) (t : State) => ∃ (f2 : Nat → Int64), (f2 = (xc_has f n).1) ∧ pw_t D cI cJ cZ cO A [(h0, mkC h1), (h1, .inl (cJ, 4, .inr (.inl f2)))] t) A) #[(.ref h0 : Value), (.int n : Value)] s 0 0 A) := ⟨_, rfl⟩
  obtain ⟨RES, hRES⟩ : ∃ y, y = (xc_has f n) := ⟨_, rfl⟩
  -- from the entry
  have hE := hRES
  unfold xc_has at hE
  refine lv_aload_n hx hb dX4_has_0 rfl (lv_at hl 0 rfl) ?_
  refine va_get (D := D) (ci := 4) (v := .ref h1) (C := RX4) (T := TX4) (N := 1) hx hb ha inlX4 hown hK hP 0 rfl rfl 0 (by decide) (ha _ kf_X4_7) (fun _ h9 => h9) rfl dX4_has_1 ?_
  refine lv_iload_n hx hb dX4_has_4 rfl (lv_at hl 1 rfl) ?_
  refine lv_bipush (v := 6) hx hb dX4_has_5 (by decide) ?_
  refine lv_ishr hx hb dX4_has_7 ?_
  refine lv_topi (fun x_9 ex_9 => ?_)
  have hE := bd_at ex_9 hE
  refine lv_iconst (v := 3) hx hb dX4_has_8 (by decide) ?_
  refine lv_iand hx hb dX4_has_9 ?_
  refine lv_topi (fun x_10 ex_10 => ?_)
  have hE := bd_at ex_10 hE
  refine va_lald hx hb hK hP 1 1 rfl rfl (by rw [ex_10]; exact sw_ix _) dX4_has_10 ?_
  refine lv_topl (fun y_11 ey_11 => ?_)
  have hE := bd_at ey_11 hE
  refine lv_iload_n hx hb dX4_has_11 rfl (lv_at hl 1 rfl) ?_
  refine lv_bipush (v := 63) hx hb dX4_has_12 (by decide) ?_
  refine lv_iand hx hb dX4_has_14 ?_
  refine lv_topi (fun x_12 ex_12 => ?_)
  have hE := bd_at ex_12 hE
  refine lv_lushr hx hb dX4_has_15 rfl ?_
  refine lv_topl (fun y_13 ey_13 => ?_)
  have hE := bd_at ey_13 hE
  refine lv_lconst (v := 1) hx hb dX4_has_16 (by decide) ?_
  refine lv_land hx hb dX4_has_17 ?_
  refine lv_topl (fun y_14 ey_14 => ?_)
  have hE := bd_at ey_14 hE
  refine lv_lconst (v := 0) hx hb dX4_has_18 (by decide) ?_
  refine W.lcmp hx hb dX4_has_19 ?_
  refine lv_topi (fun x_15 ex_15 => ?_)
  have hE := bd_at ex_15 hE
  refine lv_if_eq (tgt := 27) hx hb dX4_has_20 (by decide) (fun c_16 => ?_) (fun c_16 => ?_)
  · have hE := hE.trans (if_pos c_16)
    refine lv_iconst (v := 0) hx hb dX4_has_27 (by decide) ?_
    have hP9 := hP.sub (ws' := [(h0, mkC h1), (h1, .inl (cJ, 4, .inr (.inl f)))]) [0, 1] rfl
    have hD9 := hD.sub (ws' := [(h0, mkC h1), (h1, .inl (cJ, 4, .inr (.inl f)))]) [0, 1] (by decide) rfl
    exact W.zret (v := 0) hx hb hr rfl (fun t ht hW => ⟨⟨0, (), rfl, ⟨(by decide), (by rw [← hRES, hE])⟩, ⟨f, (by rw [← hRES, hE]), by rw [ht]; exact hP9, va_K.moved hW.alike hK, hD9⟩⟩, hS.F ht⟩) hS.2.2 dX4_has_28
  · have hE := hE.trans (if_neg c_16)
    refine lv_iconst (v := 1) hx hb dX4_has_23 (by decide) ?_
    refine lv_goto (tgt := 28) hx hb dX4_has_24 (by decide) ?_
    have hP9 := hP.sub (ws' := [(h0, mkC h1), (h1, .inl (cJ, 4, .inr (.inl f)))]) [0, 1] rfl
    have hD9 := hD.sub (ws' := [(h0, mkC h1), (h1, .inl (cJ, 4, .inr (.inl f)))]) [0, 1] (by decide) rfl
    exact W.zret (v := 1) hx hb hr rfl (fun t ht hW => ⟨⟨1, (), rfl, ⟨(by decide), (by rw [← hRES, hE])⟩, ⟨f, (by rw [← hRES, hE]), by rw [ht]; exact hP9, va_K.moved hW.alike hK, hD9⟩⟩, hS.F ht⟩) hS.2.2 dX4_has_28

set_option maxRecDepth 100000 in
def xc_put (f : Nat → Int64) (n : Int32) : (Nat → Int64) := bd (n >>> ((6 : Int32) &&& 31)) (fun v1 => bd (v1 &&& (3 : Int32)) (fun v2 => bd (f v2.toNatClampNeg) (fun w3 => bd (n &&& (63 : Int32)) (fun v4 => bd ((1 : Int64) <<< (v4.toInt64 &&& 63)) (fun w5 => bd (w3 ||| w5) (fun w6 => bd (vp_updL f (v2.toNatClampNeg) w6) (fun f => (f))))))))
set_option maxHeartbeats 4000000 in
set_option maxRecDepth 100000 in
theorem s_put (l : Launch) (D : va_G) (cI cJ cZ cO : ClassId) (sz : Nat) (h0 h1 : Nat) (f : Nat → Int64) (n : Int32) : Met l yX4_put (wa yX4_put cX4_put 2 none) ({ frames := 0, cells := 0, slots := 0, locals := 0 }) (va_Pc [.ref h0, .int n] (pw_s D cI cJ cZ cO sz [(h0, mkC h1), (h1, .inl (cJ, 4, .inr (.inl f)))])) (va_Qv (fun (_ : Unit) => True) (fun (_ : Unit) (t : State) => ∃ (f2 : Nat → Int64), (f2 = (xc_put f n)) ∧ pw_t D cI cJ cZ cO (va_A [(h0, mkC h1), (h1, .inl (cJ, 4, .inr (.inl f)))] sz) [(h0, mkC h1), (h1, .inl (cJ, 4, .inr (.inl f2)))] t) (va_A [(h0, mkC h1), (h1, .inl (cJ, 4, .inr (.inl f)))] sz)) 0 0 (va_A [(h0, mkC h1), (h1, .inl (cJ, 4, .inr (.inl f)))] sz) := by
  refine Met.ofW (cc := cX4_put) (maxL := 2) (ret := none) (by decide) rfl ?_
  intro p e s m args below meth c s₁ B hml hv
  obtain ⟨rfl, hsz, hP, hK, hD0, hN⟩ := hv
  have hx := B.exec
  have hb := B.bytes
  have hr := B.returns
  have hts := atoms_spec (ws := (wa yX4_put cX4_put 2 none)) B.pre
  have ha : ∀ w ∈ wsL_law, w.before _ s = true := fun w h => hts w (List.mem_cons_of_mem _ h)
  have hown : s.vm.findClass RX4 = some m.cls := findClass_of_methodNamed B.named
  have hlocks := B.notSynchronized
  subst hsz
  have hD := hD0.self (sz := s.heap.size)
  generalize hAe : va_A [(h0, mkC h1), (h1, .inl (cJ, 4, .inr (.inl f)))] s.heap.size = A at hD ⊢
  have hA : ∀ q : Nat, s.heap.size ≤ q → A q := fun q h => by rw [← hAe]; exact Or.inr h
  have hS : va_S A s.heap s.heap [] := va_S.rf
  have hP : va_P D vwCl [(h0, mkC h1), (h1, .inl (cJ, 4, .inr (.inl f)))] s.heap := hP
  have hl := lv_entry ([.ref h0, .int n]) (n := 2) (Nat.le_of_ble_eq_true rfl)
  rw [lg_entry_eq]
  generalize (lg_sl ([.ref h0, .int n]) ++ List.replicate (2 - (lg_sl ([.ref h0, .int n])).length) Slot.unset).toArray = ls at hl ⊢
  have hl : lv_has ls 2 [(0, .ref h0), (1, .int n)] := hl
  obtain ⟨QP, hQP⟩ : ∃ y : State → Prop, y = (MQ below (va_Qv (fun (_ : Unit) => True) (fun (_ : Unit) (t : State) => ∃ (f2 : Nat → Int64), (f2 = (xc_put f n)) ∧ pw_t D cI cJ cZ cO A [(h0, mkC h1), (h1, .inl (cJ, 4, .inr (.inl f2)))] t) A) #[(.ref h0 : Value), (.int n : Value)] s 0 0 A) := ⟨_, rfl⟩
  obtain ⟨RES, hRES⟩ : ∃ y, y = (xc_put f n) := ⟨_, rfl⟩
  -- from the entry
  have hE := hRES
  unfold xc_put at hE
  refine lv_aload_n hx hb dX4_put_0 rfl (lv_at hl 0 rfl) ?_
  refine va_get (D := D) (ci := 4) (v := .ref h1) (C := RX4) (T := TX4) (N := 1) hx hb ha inlX4 hown hK hP 0 rfl rfl 0 (by decide) (ha _ kf_X4_7) (fun _ h9 => h9) rfl dX4_put_1 ?_
  refine lv_iload_n hx hb dX4_put_4 rfl (lv_at hl 1 rfl) ?_
  refine lv_bipush (v := 6) hx hb dX4_put_5 (by decide) ?_
  refine lv_ishr hx hb dX4_put_7 ?_
  refine lv_topi (fun x_8 ex_8 => ?_)
  have hE := bd_at ex_8 hE
  refine lv_iconst (v := 3) hx hb dX4_put_8 (by decide) ?_
  refine lv_iand hx hb dX4_put_9 ?_
  refine lv_topi (fun x_9 ex_9 => ?_)
  have hE := bd_at ex_9 hE
  refine lv_dup2_11 hx hb dX4_put_10 rfl rfl ?_
  refine va_lald hx hb hK hP 1 1 rfl rfl (by rw [ex_9]; exact sw_ix _) dX4_put_11 ?_
  refine lv_topl (fun y_10 ey_10 => ?_)
  have hE := bd_at ey_10 hE
  refine lv_lconst (v := 1) hx hb dX4_put_12 (by decide) ?_
  refine lv_iload_n hx hb dX4_put_13 rfl (lv_at hl 1 rfl) ?_
  refine lv_bipush (v := 63) hx hb dX4_put_14 (by decide) ?_
  refine lv_iand hx hb dX4_put_16 ?_
  refine lv_topi (fun x_11 ex_11 => ?_)
  have hE := bd_at ex_11 hE
  refine lv_lshl hx hb dX4_put_17 rfl ?_
  refine lv_topl (fun y_12 ey_12 => ?_)
  have hE := bd_at ey_12 hE
  refine lv_lor hx hb dX4_put_18 ?_
  refine lv_topl (fun y_13 ey_13 => ?_)
  have hE := bd_at ey_13 hE
  refine va_last hx hb hK hP hD hS 1 1 rfl rfl (by rw [ex_9]; exact sw_ix _) dX4_put_19 (fun H locs hP hD hS => ?_)
  have hP : va_P D vwCl [(h0, mkC h1), (h1, .inl (cJ, 4, .inr (.inl (vp_updL f ((x_9 : Int32).toNatClampNeg) y_13))))] H := hP
  have hD : va_D A [(h0, mkC h1), (h1, .inl (cJ, 4, .inr (.inl (vp_updL f ((x_9 : Int32).toNatClampNeg) y_13))))] := hD
  generalize hga_14 : vp_updL f ((x_9 : Int32).toNatClampNeg) y_13 = f at hP hD
  have hE := bs_at hga_14 hE
  have hP9 := hP.sub (ws' := [(h0, mkC h1), (h1, .inl (cJ, 4, .inr (.inl f)))]) [0, 1] rfl
  have hD9 := hD.sub (ws' := [(h0, mkC h1), (h1, .inl (cJ, 4, .inr (.inl f)))]) [0, 1] (by decide) rfl
  exact W.vret hx hb hr (fun t ht hW => ⟨⟨(), rfl, trivial, ⟨f, (by rw [← hRES, hE]), by rw [ht]; exact hP9, va_K.moved hW.alike hK, hD9⟩⟩, hS.F ht⟩) hS.2.2 dX4_put_20

set_option maxRecDepth 100000 in
def xc_drop (f : Nat → Int64) (n : Int32) : (Nat → Int64) := bd (n >>> ((6 : Int32) &&& 31)) (fun v1 => bd (v1 &&& (3 : Int32)) (fun v2 => bd (f v2.toNatClampNeg) (fun w3 => bd (n &&& (63 : Int32)) (fun v4 => bd ((1 : Int64) <<< (v4.toInt64 &&& 63)) (fun w5 => bd (w5 ^^^ ((-1) : Int64)) (fun w6 => bd (w3 &&& w6) (fun w7 => bd (vp_updL f (v2.toNatClampNeg) w7) (fun f => (f)))))))))
set_option maxHeartbeats 4000000 in
set_option maxRecDepth 100000 in
theorem s_drop (l : Launch) (D : va_G) (cI cJ cZ cO : ClassId) (sz : Nat) (h0 h1 : Nat) (f : Nat → Int64) (n : Int32) : Met l yX4_drop (wa yX4_drop cX4_drop 2 none) ({ frames := 0, cells := 0, slots := 0, locals := 0 }) (va_Pc [.ref h0, .int n] (pw_s D cI cJ cZ cO sz [(h0, mkC h1), (h1, .inl (cJ, 4, .inr (.inl f)))])) (va_Qv (fun (_ : Unit) => True) (fun (_ : Unit) (t : State) => ∃ (f2 : Nat → Int64), (f2 = (xc_drop f n)) ∧ pw_t D cI cJ cZ cO (va_A [(h0, mkC h1), (h1, .inl (cJ, 4, .inr (.inl f)))] sz) [(h0, mkC h1), (h1, .inl (cJ, 4, .inr (.inl f2)))] t) (va_A [(h0, mkC h1), (h1, .inl (cJ, 4, .inr (.inl f)))] sz)) 0 0 (va_A [(h0, mkC h1), (h1, .inl (cJ, 4, .inr (.inl f)))] sz) := by
  refine Met.ofW (cc := cX4_drop) (maxL := 2) (ret := none) (by decide) rfl ?_
  intro p e s m args below meth c s₁ B hml hv
  obtain ⟨rfl, hsz, hP, hK, hD0, hN⟩ := hv
  have hx := B.exec
  have hb := B.bytes
  have hr := B.returns
  have hts := atoms_spec (ws := (wa yX4_drop cX4_drop 2 none)) B.pre
  have ha : ∀ w ∈ wsL_law, w.before _ s = true := fun w h => hts w (List.mem_cons_of_mem _ h)
  have hown : s.vm.findClass RX4 = some m.cls := findClass_of_methodNamed B.named
  have hlocks := B.notSynchronized
  subst hsz
  have hD := hD0.self (sz := s.heap.size)
  generalize hAe : va_A [(h0, mkC h1), (h1, .inl (cJ, 4, .inr (.inl f)))] s.heap.size = A at hD ⊢
  have hA : ∀ q : Nat, s.heap.size ≤ q → A q := fun q h => by rw [← hAe]; exact Or.inr h
  have hS : va_S A s.heap s.heap [] := va_S.rf
  have hP : va_P D vwCl [(h0, mkC h1), (h1, .inl (cJ, 4, .inr (.inl f)))] s.heap := hP
  have hl := lv_entry ([.ref h0, .int n]) (n := 2) (Nat.le_of_ble_eq_true rfl)
  rw [lg_entry_eq]
  generalize (lg_sl ([.ref h0, .int n]) ++ List.replicate (2 - (lg_sl ([.ref h0, .int n])).length) Slot.unset).toArray = ls at hl ⊢
  have hl : lv_has ls 2 [(0, .ref h0), (1, .int n)] := hl
  obtain ⟨QP, hQP⟩ : ∃ y : State → Prop, y = (MQ below (va_Qv (fun (_ : Unit) => True) (fun (_ : Unit) (t : State) => ∃ (f2 : Nat → Int64), (f2 = (xc_drop f n)) ∧ pw_t D cI cJ cZ cO A [(h0, mkC h1), (h1, .inl (cJ, 4, .inr (.inl f2)))] t) A) #[(.ref h0 : Value), (.int n : Value)] s 0 0 A) := ⟨_, rfl⟩
  obtain ⟨RES, hRES⟩ : ∃ y, y = (xc_drop f n) := ⟨_, rfl⟩
  -- from the entry
  have hE := hRES
  unfold xc_drop at hE
  refine lv_aload_n hx hb dX4_drop_0 rfl (lv_at hl 0 rfl) ?_
  refine va_get (D := D) (ci := 4) (v := .ref h1) (C := RX4) (T := TX4) (N := 1) hx hb ha inlX4 hown hK hP 0 rfl rfl 0 (by decide) (ha _ kf_X4_7) (fun _ h9 => h9) rfl dX4_drop_1 ?_
  refine lv_iload_n hx hb dX4_drop_4 rfl (lv_at hl 1 rfl) ?_
  refine lv_bipush (v := 6) hx hb dX4_drop_5 (by decide) ?_
  refine lv_ishr hx hb dX4_drop_7 ?_
  refine lv_topi (fun x_9 ex_9 => ?_)
  have hE := bd_at ex_9 hE
  refine lv_iconst (v := 3) hx hb dX4_drop_8 (by decide) ?_
  refine lv_iand hx hb dX4_drop_9 ?_
  refine lv_topi (fun x_10 ex_10 => ?_)
  have hE := bd_at ex_10 hE
  refine lv_dup2_11 hx hb dX4_drop_10 rfl rfl ?_
  refine va_lald hx hb hK hP 1 1 rfl rfl (by rw [ex_10]; exact sw_ix _) dX4_drop_11 ?_
  refine lv_topl (fun y_11 ey_11 => ?_)
  have hE := bd_at ey_11 hE
  refine lv_lconst (v := 1) hx hb dX4_drop_12 (by decide) ?_
  refine lv_iload_n hx hb dX4_drop_13 rfl (lv_at hl 1 rfl) ?_
  refine lv_bipush (v := 63) hx hb dX4_drop_14 (by decide) ?_
  refine lv_iand hx hb dX4_drop_16 ?_
  refine lv_topi (fun x_12 ex_12 => ?_)
  have hE := bd_at ex_12 hE
  refine lv_lshl hx hb dX4_drop_17 rfl ?_
  refine lv_topl (fun y_13 ey_13 => ?_)
  have hE := bd_at ey_13 hE
  refine lv_ldc2 (v := (-1)) hx hb hown (ha _ kj_X4_13) dX4_drop_18 ?_
  refine lv_lxor hx hb dX4_drop_21 ?_
  refine lv_topl (fun y_14 ey_14 => ?_)
  have hE := bd_at ey_14 hE
  refine lv_land hx hb dX4_drop_22 ?_
  refine lv_topl (fun y_15 ey_15 => ?_)
  have hE := bd_at ey_15 hE
  refine va_last hx hb hK hP hD hS 1 1 rfl rfl (by rw [ex_10]; exact sw_ix _) dX4_drop_23 (fun H locs hP hD hS => ?_)
  have hP : va_P D vwCl [(h0, mkC h1), (h1, .inl (cJ, 4, .inr (.inl (vp_updL f ((x_10 : Int32).toNatClampNeg) y_15))))] H := hP
  have hD : va_D A [(h0, mkC h1), (h1, .inl (cJ, 4, .inr (.inl (vp_updL f ((x_10 : Int32).toNatClampNeg) y_15))))] := hD
  generalize hga_16 : vp_updL f ((x_10 : Int32).toNatClampNeg) y_15 = f at hP hD
  have hE := bs_at hga_16 hE
  have hP9 := hP.sub (ws' := [(h0, mkC h1), (h1, .inl (cJ, 4, .inr (.inl f)))]) [0, 1] rfl
  have hD9 := hD.sub (ws' := [(h0, mkC h1), (h1, .inl (cJ, 4, .inr (.inl f)))]) [0, 1] (by decide) rfl
  exact W.vret hx hb hr (fun t ht hW => ⟨⟨(), rfl, trivial, ⟨f, (by rw [← hRES, hE]), by rw [ht]; exact hP9, va_K.moved hW.alike hK, hD9⟩⟩, hS.F ht⟩) hS.2.2 dX4_drop_24

set_option maxRecDepth 100000 in
def xc_isEmpty (f : Nat → Int64) : (Nat → Int64) × Int32 := bd (f (0 : Int32).toNatClampNeg) (fun w1 => bd (f (1 : Int32).toNatClampNeg) (fun w2 => bd (w1 ||| w2) (fun w3 => bd (f (2 : Int32).toNatClampNeg) (fun w4 => bd (w3 ||| w4) (fun w5 => bd (f (3 : Int32).toNatClampNeg) (fun w6 => bd (w5 ||| w6) (fun w7 => bd (lg_cmp w7 (0 : Int64)) (fun v8 => (if v8 = (0 : Int32) then (f, (1 : Int32)) else (f, (0 : Int32)))))))))))
set_option maxHeartbeats 4000000 in
set_option maxRecDepth 100000 in
theorem s_isEmpty (l : Launch) (D : va_G) (cI cJ cZ cO : ClassId) (sz : Nat) (h0 h1 : Nat) (f : Nat → Int64) : Met l yX4_isEmpty (wa yX4_isEmpty cX4_isEmpty 1 (some .boolean)) ({ frames := 0, cells := 0, slots := 0, locals := 0 }) (va_Pc [.ref h0] (pw_s D cI cJ cZ cO sz [(h0, mkC h1), (h1, .inl (cJ, 4, .inr (.inl f)))])) (va_Qi (fun (r : Int32) (_ : Unit) => ((r = 0 ∨ r = 1) ∧ r = (xc_isEmpty f).2)) (fun (_ : Unit) (t : State) => ∃ (f2 : Nat → Int64), (f2 = (xc_isEmpty f).1) ∧ pw_t D cI cJ cZ cO (va_A [(h0, mkC h1), (h1, .inl (cJ, 4, .inr (.inl f)))] sz) [(h0, mkC h1), (h1, .inl (cJ, 4, .inr (.inl f2)))] t) (va_A [(h0, mkC h1), (h1, .inl (cJ, 4, .inr (.inl f)))] sz)) 0 0 (va_A [(h0, mkC h1), (h1, .inl (cJ, 4, .inr (.inl f)))] sz) := by
  refine Met.ofW (cc := cX4_isEmpty) (maxL := 1) (ret := (some .boolean)) (by decide) rfl ?_
  intro p e s m args below meth c s₁ B hml hv
  obtain ⟨rfl, hsz, hP, hK, hD0, hN⟩ := hv
  have hx := B.exec
  have hb := B.bytes
  have hr := B.returns
  have hts := atoms_spec (ws := (wa yX4_isEmpty cX4_isEmpty 1 (some .boolean))) B.pre
  have ha : ∀ w ∈ wsL_law, w.before _ s = true := fun w h => hts w (List.mem_cons_of_mem _ h)
  have hown : s.vm.findClass RX4 = some m.cls := findClass_of_methodNamed B.named
  have hlocks := B.notSynchronized
  subst hsz
  have hD := hD0.self (sz := s.heap.size)
  generalize hAe : va_A [(h0, mkC h1), (h1, .inl (cJ, 4, .inr (.inl f)))] s.heap.size = A at hD ⊢
  have hA : ∀ q : Nat, s.heap.size ≤ q → A q := fun q h => by rw [← hAe]; exact Or.inr h
  have hS : va_S A s.heap s.heap [] := va_S.rf
  have hP : va_P D vwCl [(h0, mkC h1), (h1, .inl (cJ, 4, .inr (.inl f)))] s.heap := hP
  have hl := lv_entry ([.ref h0]) (n := 1) (Nat.le_of_ble_eq_true rfl)
  rw [lg_entry_eq]
  generalize (lg_sl ([.ref h0]) ++ List.replicate (1 - (lg_sl ([.ref h0])).length) Slot.unset).toArray = ls at hl ⊢
  have hl : lv_has ls 1 [(0, .ref h0)] := hl
  obtain ⟨QP, hQP⟩ : ∃ y : State → Prop, y = (MQ below (va_Qi (fun (r : Int32) (_ : Unit) => ((r = 0 ∨ r = 1) ∧ r = (xc_isEmpty f).2)) (fun (_ : Unit) (t : State) => ∃ (f2 : Nat → Int64), (f2 = (xc_isEmpty f).1) ∧ pw_t D cI cJ cZ cO A [(h0, mkC h1), (h1, .inl (cJ, 4, .inr (.inl f2)))] t) A) #[(.ref h0 : Value)] s 0 0 A) := ⟨_, rfl⟩
  obtain ⟨RES, hRES⟩ : ∃ y, y = (xc_isEmpty f) := ⟨_, rfl⟩
  -- from the entry
  have hE := hRES
  unfold xc_isEmpty at hE
  refine lv_aload_n hx hb dX4_isEmpty_0 rfl (lv_at hl 0 rfl) ?_
  refine va_get (D := D) (ci := 4) (v := .ref h1) (C := RX4) (T := TX4) (N := 1) hx hb ha inlX4 hown hK hP 0 rfl rfl 0 (by decide) (ha _ kf_X4_7) (fun _ h9 => h9) rfl dX4_isEmpty_1 ?_
  refine lv_iconst (v := 0) hx hb dX4_isEmpty_4 (by decide) ?_
  refine va_lald hx hb hK hP 1 1 rfl rfl (by unfold vp_in; decide) dX4_isEmpty_5 ?_
  refine lv_topl (fun y_10 ey_10 => ?_)
  have hE := bd_at ey_10 hE
  refine lv_aload_n hx hb dX4_isEmpty_6 rfl (lv_at hl 0 rfl) ?_
  refine va_get (D := D) (ci := 4) (v := .ref h1) (C := RX4) (T := TX4) (N := 1) hx hb ha inlX4 hown hK hP 0 rfl rfl 0 (by decide) (ha _ kf_X4_7) (fun _ h9 => h9) rfl dX4_isEmpty_7 ?_
  refine lv_iconst (v := 1) hx hb dX4_isEmpty_10 (by decide) ?_
  refine va_lald hx hb hK hP 1 1 rfl rfl (by unfold vp_in; decide) dX4_isEmpty_11 ?_
  refine lv_topl (fun y_11 ey_11 => ?_)
  have hE := bd_at ey_11 hE
  refine lv_lor hx hb dX4_isEmpty_12 ?_
  refine lv_topl (fun y_12 ey_12 => ?_)
  have hE := bd_at ey_12 hE
  refine lv_aload_n hx hb dX4_isEmpty_13 rfl (lv_at hl 0 rfl) ?_
  refine va_get (D := D) (ci := 4) (v := .ref h1) (C := RX4) (T := TX4) (N := 1) hx hb ha inlX4 hown hK hP 0 rfl rfl 0 (by decide) (ha _ kf_X4_7) (fun _ h9 => h9) rfl dX4_isEmpty_14 ?_
  refine lv_iconst (v := 2) hx hb dX4_isEmpty_17 (by decide) ?_
  refine va_lald hx hb hK hP 1 1 rfl rfl (by unfold vp_in; decide) dX4_isEmpty_18 ?_
  refine lv_topl (fun y_13 ey_13 => ?_)
  have hE := bd_at ey_13 hE
  refine lv_lor hx hb dX4_isEmpty_19 ?_
  refine lv_topl (fun y_14 ey_14 => ?_)
  have hE := bd_at ey_14 hE
  refine lv_aload_n hx hb dX4_isEmpty_20 rfl (lv_at hl 0 rfl) ?_
  refine va_get (D := D) (ci := 4) (v := .ref h1) (C := RX4) (T := TX4) (N := 1) hx hb ha inlX4 hown hK hP 0 rfl rfl 0 (by decide) (ha _ kf_X4_7) (fun _ h9 => h9) rfl dX4_isEmpty_21 ?_
  refine lv_iconst (v := 3) hx hb dX4_isEmpty_24 (by decide) ?_
  refine va_lald hx hb hK hP 1 1 rfl rfl (by unfold vp_in; decide) dX4_isEmpty_25 ?_
  refine lv_topl (fun y_15 ey_15 => ?_)
  have hE := bd_at ey_15 hE
  refine lv_lor hx hb dX4_isEmpty_26 ?_
  refine lv_topl (fun y_16 ey_16 => ?_)
  have hE := bd_at ey_16 hE
  refine lv_lconst (v := 0) hx hb dX4_isEmpty_27 (by decide) ?_
  refine W.lcmp hx hb dX4_isEmpty_28 ?_
  refine lv_topi (fun x_17 ex_17 => ?_)
  have hE := bd_at ex_17 hE
  refine lv_if_ne (tgt := 36) hx hb dX4_isEmpty_29 (by decide) (fun c_18 => ?_) (fun c_18 => ?_)
  · have hE := hE.trans (if_neg c_18)
    refine lv_iconst (v := 0) hx hb dX4_isEmpty_36 (by decide) ?_
    have hP9 := hP.sub (ws' := [(h0, mkC h1), (h1, .inl (cJ, 4, .inr (.inl f)))]) [0, 1] rfl
    have hD9 := hD.sub (ws' := [(h0, mkC h1), (h1, .inl (cJ, 4, .inr (.inl f)))]) [0, 1] (by decide) rfl
    exact W.zret (v := 0) hx hb hr rfl (fun t ht hW => ⟨⟨0, (), rfl, ⟨(by decide), (by rw [← hRES, hE])⟩, ⟨f, (by rw [← hRES, hE]), by rw [ht]; exact hP9, va_K.moved hW.alike hK, hD9⟩⟩, hS.F ht⟩) hS.2.2 dX4_isEmpty_37
  · have hE := hE.trans (if_pos c_18)
    refine lv_iconst (v := 1) hx hb dX4_isEmpty_32 (by decide) ?_
    refine lv_goto (tgt := 37) hx hb dX4_isEmpty_33 (by decide) ?_
    have hP9 := hP.sub (ws' := [(h0, mkC h1), (h1, .inl (cJ, 4, .inr (.inl f)))]) [0, 1] rfl
    have hD9 := hD.sub (ws' := [(h0, mkC h1), (h1, .inl (cJ, 4, .inr (.inl f)))]) [0, 1] (by decide) rfl
    exact W.zret (v := 1) hx hb hr rfl (fun t ht hW => ⟨⟨1, (), rfl, ⟨(by decide), (by rw [← hRES, hE])⟩, ⟨f, (by rw [← hRES, hE]), by rw [ht]; exact hP9, va_K.moved hW.alike hK, hD9⟩⟩, hS.F ht⟩) hS.2.2 dX4_isEmpty_37

set_option maxRecDepth 100000 in
def xc_clear (f : Nat → Int64) : (Nat → Int64) := bd (vp_updL f ((0 : Int32).toNatClampNeg) (0 : Int64)) (fun f => bd (vp_updL f ((1 : Int32).toNatClampNeg) (0 : Int64)) (fun f => bd (vp_updL f ((2 : Int32).toNatClampNeg) (0 : Int64)) (fun f => bd (vp_updL f ((3 : Int32).toNatClampNeg) (0 : Int64)) (fun f => (f)))))
set_option maxHeartbeats 4000000 in
set_option maxRecDepth 100000 in
theorem s_clear (l : Launch) (D : va_G) (cI cJ cZ cO : ClassId) (sz : Nat) (h0 h1 : Nat) (f : Nat → Int64) : Met l yX4_clear (wa yX4_clear cX4_clear 2 none) ({ frames := 0, cells := 0, slots := 0, locals := 0 }) (va_Pc [.ref h0] (pw_s D cI cJ cZ cO sz [(h0, mkC h1), (h1, .inl (cJ, 4, .inr (.inl f)))])) (va_Qv (fun (_ : Unit) => True) (fun (_ : Unit) (t : State) => ∃ (f2 : Nat → Int64), (f2 = (xc_clear f)) ∧ pw_t D cI cJ cZ cO (va_A [(h0, mkC h1), (h1, .inl (cJ, 4, .inr (.inl f)))] sz) [(h0, mkC h1), (h1, .inl (cJ, 4, .inr (.inl f2)))] t) (va_A [(h0, mkC h1), (h1, .inl (cJ, 4, .inr (.inl f)))] sz)) 0 0 (va_A [(h0, mkC h1), (h1, .inl (cJ, 4, .inr (.inl f)))] sz) := by
  refine Met.ofW (cc := cX4_clear) (maxL := 2) (ret := none) (by decide) rfl ?_
  intro p e s m args below meth c s₁ B hml hv
  obtain ⟨rfl, hsz, hP, hK, hD0, hN⟩ := hv
  have hx := B.exec
  have hb := B.bytes
  have hr := B.returns
  have hts := atoms_spec (ws := (wa yX4_clear cX4_clear 2 none)) B.pre
  have ha : ∀ w ∈ wsL_law, w.before _ s = true := fun w h => hts w (List.mem_cons_of_mem _ h)
  have hown : s.vm.findClass RX4 = some m.cls := findClass_of_methodNamed B.named
  have hlocks := B.notSynchronized
  subst hsz
  have hD := hD0.self (sz := s.heap.size)
  generalize hAe : va_A [(h0, mkC h1), (h1, .inl (cJ, 4, .inr (.inl f)))] s.heap.size = A at hD ⊢
  have hA : ∀ q : Nat, s.heap.size ≤ q → A q := fun q h => by rw [← hAe]; exact Or.inr h
  have hS : va_S A s.heap s.heap [] := va_S.rf
  have hP : va_P D vwCl [(h0, mkC h1), (h1, .inl (cJ, 4, .inr (.inl f)))] s.heap := hP
  have hl := lv_entry ([.ref h0]) (n := 2) (Nat.le_of_ble_eq_true rfl)
  rw [lg_entry_eq]
  generalize (lg_sl ([.ref h0]) ++ List.replicate (2 - (lg_sl ([.ref h0])).length) Slot.unset).toArray = ls at hl ⊢
  have hl : lv_has ls 2 [(0, .ref h0)] := hl
  obtain ⟨QP, hQP⟩ : ∃ y : State → Prop, y = (MQ below (va_Qv (fun (_ : Unit) => True) (fun (_ : Unit) (t : State) => ∃ (f2 : Nat → Int64), (f2 = (xc_clear f)) ∧ pw_t D cI cJ cZ cO A [(h0, mkC h1), (h1, .inl (cJ, 4, .inr (.inl f2)))] t) A) #[(.ref h0 : Value)] s 0 0 A) := ⟨_, rfl⟩
  obtain ⟨RES, hRES⟩ : ∃ y, y = (xc_clear f) := ⟨_, rfl⟩
  -- from the entry
  have hE := hRES
  unfold xc_clear at hE
  refine lv_iconst (v := 0) hx hb dX4_clear_0 (by decide) ?_
  refine lv_istore_n (lv' := [(1, .int 0), (0, .ref h0)]) hx hb dX4_clear_1 rfl hl (by decide) rfl (fun ls hl => ?_)
  refine lv_iload_n hx hb dX4_clear_2 rfl (lv_at hl 0 rfl) ?_
  refine lv_aload_n hx hb dX4_clear_3 rfl (lv_at hl 1 rfl) ?_
  refine va_get (D := D) (ci := 4) (v := .ref h1) (C := RX4) (T := TX4) (N := 1) hx hb ha inlX4 hown hK hP 0 rfl rfl 0 (by decide) (ha _ kf_X4_7) (fun _ h9 => h9) rfl dX4_clear_4 ?_
  refine va_alen hx hb hK hP 1 1 (v := 4) rfl rfl (show Int32.ofNat 4 = 4 by decide) dX4_clear_7 ?_
  refine lv_icmp_ge (tgt := 24) hx hb dX4_clear_8 (by decide) (fun c_14 => ?_) (fun c_14 => ?_)
  · exact absurd c_14 (by decide)
  refine lv_aload_n hx hb dX4_clear_11 rfl (lv_at hl 1 rfl) ?_
  refine va_get (D := D) (ci := 4) (v := .ref h1) (C := RX4) (T := TX4) (N := 1) hx hb ha inlX4 hown hK hP 0 rfl rfl 0 (by decide) (ha _ kf_X4_7) (fun _ h9 => h9) rfl dX4_clear_12 ?_
  refine lv_iload_n hx hb dX4_clear_15 rfl (lv_at hl 0 rfl) ?_
  refine lv_lconst (v := 0) hx hb dX4_clear_16 (by decide) ?_
  refine va_last hx hb hK hP hD hS 1 1 rfl rfl (by unfold vp_in; decide) dX4_clear_17 (fun H locs hP hD hS => ?_)
  have hP : va_P D vwCl [(h0, mkC h1), (h1, .inl (cJ, 4, .inr (.inl (vp_updL f ((0 : Int32).toNatClampNeg) 0))))] H := hP
  have hD : va_D A [(h0, mkC h1), (h1, .inl (cJ, 4, .inr (.inl (vp_updL f ((0 : Int32).toNatClampNeg) 0))))] := hD
  generalize hga_15 : vp_updL f ((0 : Int32).toNatClampNeg) 0 = f at hP hD
  have hE := bs_at hga_15 hE
  refine lv_iinc (v := 1) (lv' := [(1, .int 1), (0, .ref h0)]) hx hb dX4_clear_18 hl (k := 0) rfl (by decide) (by decide) rfl (fun ls hl => ?_)
  refine lv_goto (tgt := 2) hx hb dX4_clear_21 (by decide) ?_
  refine lv_iload_n hx hb dX4_clear_2 rfl (lv_at hl 0 rfl) ?_
  refine lv_aload_n hx hb dX4_clear_3 rfl (lv_at hl 1 rfl) ?_
  refine va_get (D := D) (ci := 4) (v := .ref h1) (C := RX4) (T := TX4) (N := 1) hx hb ha inlX4 hown hK hP 0 rfl rfl 0 (by decide) (ha _ kf_X4_7) (fun _ h9 => h9) rfl dX4_clear_4 ?_
  refine va_alen hx hb hK hP 1 1 (v := 4) rfl rfl (show Int32.ofNat 4 = 4 by decide) dX4_clear_7 ?_
  refine lv_icmp_ge (tgt := 24) hx hb dX4_clear_8 (by decide) (fun c_17 => ?_) (fun c_17 => ?_)
  · exact absurd c_17 (by decide)
  refine lv_aload_n hx hb dX4_clear_11 rfl (lv_at hl 1 rfl) ?_
  refine va_get (D := D) (ci := 4) (v := .ref h1) (C := RX4) (T := TX4) (N := 1) hx hb ha inlX4 hown hK hP 0 rfl rfl 0 (by decide) (ha _ kf_X4_7) (fun _ h9 => h9) rfl dX4_clear_12 ?_
  refine lv_iload_n hx hb dX4_clear_15 rfl (lv_at hl 0 rfl) ?_
  refine lv_lconst (v := 0) hx hb dX4_clear_16 (by decide) ?_
  refine va_last hx hb hK hP hD hS 1 1 rfl rfl (by unfold vp_in; decide) dX4_clear_17 (fun H locs hP hD hS => ?_)
  have hP : va_P D vwCl [(h0, mkC h1), (h1, .inl (cJ, 4, .inr (.inl (vp_updL f ((1 : Int32).toNatClampNeg) 0))))] H := hP
  have hD : va_D A [(h0, mkC h1), (h1, .inl (cJ, 4, .inr (.inl (vp_updL f ((1 : Int32).toNatClampNeg) 0))))] := hD
  generalize hga_18 : vp_updL f ((1 : Int32).toNatClampNeg) 0 = f at hP hD
  have hE := bs_at hga_18 hE
  refine lv_iinc (v := 2) (lv' := [(1, .int 2), (0, .ref h0)]) hx hb dX4_clear_18 hl (k := 0) rfl (by decide) (by decide) rfl (fun ls hl => ?_)
  refine lv_goto (tgt := 2) hx hb dX4_clear_21 (by decide) ?_
  refine lv_iload_n hx hb dX4_clear_2 rfl (lv_at hl 0 rfl) ?_
  refine lv_aload_n hx hb dX4_clear_3 rfl (lv_at hl 1 rfl) ?_
  refine va_get (D := D) (ci := 4) (v := .ref h1) (C := RX4) (T := TX4) (N := 1) hx hb ha inlX4 hown hK hP 0 rfl rfl 0 (by decide) (ha _ kf_X4_7) (fun _ h9 => h9) rfl dX4_clear_4 ?_
  refine va_alen hx hb hK hP 1 1 (v := 4) rfl rfl (show Int32.ofNat 4 = 4 by decide) dX4_clear_7 ?_
  refine lv_icmp_ge (tgt := 24) hx hb dX4_clear_8 (by decide) (fun c_20 => ?_) (fun c_20 => ?_)
  · exact absurd c_20 (by decide)
  refine lv_aload_n hx hb dX4_clear_11 rfl (lv_at hl 1 rfl) ?_
  refine va_get (D := D) (ci := 4) (v := .ref h1) (C := RX4) (T := TX4) (N := 1) hx hb ha inlX4 hown hK hP 0 rfl rfl 0 (by decide) (ha _ kf_X4_7) (fun _ h9 => h9) rfl dX4_clear_12 ?_
  refine lv_iload_n hx hb dX4_clear_15 rfl (lv_at hl 0 rfl) ?_
  refine lv_lconst (v := 0) hx hb dX4_clear_16 (by decide) ?_
  refine va_last hx hb hK hP hD hS 1 1 rfl rfl (by unfold vp_in; decide) dX4_clear_17 (fun H locs hP hD hS => ?_)
  have hP : va_P D vwCl [(h0, mkC h1), (h1, .inl (cJ, 4, .inr (.inl (vp_updL f ((2 : Int32).toNatClampNeg) 0))))] H := hP
  have hD : va_D A [(h0, mkC h1), (h1, .inl (cJ, 4, .inr (.inl (vp_updL f ((2 : Int32).toNatClampNeg) 0))))] := hD
  generalize hga_21 : vp_updL f ((2 : Int32).toNatClampNeg) 0 = f at hP hD
  have hE := bs_at hga_21 hE
  refine lv_iinc (v := 3) (lv' := [(1, .int 3), (0, .ref h0)]) hx hb dX4_clear_18 hl (k := 0) rfl (by decide) (by decide) rfl (fun ls hl => ?_)
  refine lv_goto (tgt := 2) hx hb dX4_clear_21 (by decide) ?_
  refine lv_iload_n hx hb dX4_clear_2 rfl (lv_at hl 0 rfl) ?_
  refine lv_aload_n hx hb dX4_clear_3 rfl (lv_at hl 1 rfl) ?_
  refine va_get (D := D) (ci := 4) (v := .ref h1) (C := RX4) (T := TX4) (N := 1) hx hb ha inlX4 hown hK hP 0 rfl rfl 0 (by decide) (ha _ kf_X4_7) (fun _ h9 => h9) rfl dX4_clear_4 ?_
  refine va_alen hx hb hK hP 1 1 (v := 4) rfl rfl (show Int32.ofNat 4 = 4 by decide) dX4_clear_7 ?_
  refine lv_icmp_ge (tgt := 24) hx hb dX4_clear_8 (by decide) (fun c_23 => ?_) (fun c_23 => ?_)
  · exact absurd c_23 (by decide)
  refine lv_aload_n hx hb dX4_clear_11 rfl (lv_at hl 1 rfl) ?_
  refine va_get (D := D) (ci := 4) (v := .ref h1) (C := RX4) (T := TX4) (N := 1) hx hb ha inlX4 hown hK hP 0 rfl rfl 0 (by decide) (ha _ kf_X4_7) (fun _ h9 => h9) rfl dX4_clear_12 ?_
  refine lv_iload_n hx hb dX4_clear_15 rfl (lv_at hl 0 rfl) ?_
  refine lv_lconst (v := 0) hx hb dX4_clear_16 (by decide) ?_
  refine va_last hx hb hK hP hD hS 1 1 rfl rfl (by unfold vp_in; decide) dX4_clear_17 (fun H locs hP hD hS => ?_)
  have hP : va_P D vwCl [(h0, mkC h1), (h1, .inl (cJ, 4, .inr (.inl (vp_updL f ((3 : Int32).toNatClampNeg) 0))))] H := hP
  have hD : va_D A [(h0, mkC h1), (h1, .inl (cJ, 4, .inr (.inl (vp_updL f ((3 : Int32).toNatClampNeg) 0))))] := hD
  generalize hga_24 : vp_updL f ((3 : Int32).toNatClampNeg) 0 = f at hP hD
  have hE := bs_at hga_24 hE
  refine lv_iinc (v := 4) (lv' := [(1, .int 4), (0, .ref h0)]) hx hb dX4_clear_18 hl (k := 0) rfl (by decide) (by decide) rfl (fun ls hl => ?_)
  refine lv_goto (tgt := 2) hx hb dX4_clear_21 (by decide) ?_
  refine lv_iload_n hx hb dX4_clear_2 rfl (lv_at hl 0 rfl) ?_
  refine lv_aload_n hx hb dX4_clear_3 rfl (lv_at hl 1 rfl) ?_
  refine va_get (D := D) (ci := 4) (v := .ref h1) (C := RX4) (T := TX4) (N := 1) hx hb ha inlX4 hown hK hP 0 rfl rfl 0 (by decide) (ha _ kf_X4_7) (fun _ h9 => h9) rfl dX4_clear_4 ?_
  refine va_alen hx hb hK hP 1 1 (v := 4) rfl rfl (show Int32.ofNat 4 = 4 by decide) dX4_clear_7 ?_
  refine lv_icmp_ge (tgt := 24) hx hb dX4_clear_8 (by decide) (fun c_26 => ?_) (fun c_26 => ?_)
  rotate_left
  · exact absurd (by decide) c_26
  have hP9 := hP.sub (ws' := [(h0, mkC h1), (h1, .inl (cJ, 4, .inr (.inl f)))]) [0, 1] rfl
  have hD9 := hD.sub (ws' := [(h0, mkC h1), (h1, .inl (cJ, 4, .inr (.inl f)))]) [0, 1] (by decide) rfl
  exact W.vret hx hb hr (fun t ht hW => ⟨⟨(), rfl, trivial, ⟨f, (by rw [← hRES, hE]), by rw [ht]; exact hP9, va_K.moved hW.alike hK, hD9⟩⟩, hS.F ht⟩) hS.2.2 dX4_clear_24

set_option maxRecDepth 100000 in
def xc_writeTo (f : Nat → Int64) (ur : Nat → Int64) : (Nat → Int64) × (Nat → Int64) := bd (f (0 : Int32).toNatClampNeg) (fun w1 => bd (vp_updL ur ((0 : Int32).toNatClampNeg) w1) (fun ur => bd (f (1 : Int32).toNatClampNeg) (fun w2 => bd (vp_updL ur ((1 : Int32).toNatClampNeg) w2) (fun ur => bd (f (2 : Int32).toNatClampNeg) (fun w3 => bd (vp_updL ur ((2 : Int32).toNatClampNeg) w3) (fun ur => bd (f (3 : Int32).toNatClampNeg) (fun w4 => bd (vp_updL ur ((3 : Int32).toNatClampNeg) w4) (fun ur => (f, ur)))))))))
set_option maxHeartbeats 4000000 in
set_option maxRecDepth 100000 in
theorem s_writeTo (l : Launch) (D : va_G) (cI cJ cZ cO : ClassId) (sz : Nat) (h0 h1 h2 : Nat) (f ur : Nat → Int64) : Met l yX4_writeTo (wa yX4_writeTo cX4_writeTo 3 none) ({ frames := 0, cells := 0, slots := 0, locals := 0 }) (va_Pc [.ref h0, .ref h2] (pw_s D cI cJ cZ cO sz [(h0, mkC h1), (h1, .inl (cJ, 4, .inr (.inl f))), (h2, .inl (cJ, 4, .inr (.inl ur)))])) (va_Qv (fun (_ : Unit) => True) (fun (_ : Unit) (t : State) => ∃ (f2 ur2 : Nat → Int64), (f2 = (xc_writeTo f ur).1 ∧ ur2 = (xc_writeTo f ur).2) ∧ pw_t D cI cJ cZ cO (va_A [(h0, mkC h1), (h1, .inl (cJ, 4, .inr (.inl f))), (h2, .inl (cJ, 4, .inr (.inl ur)))] sz) [(h0, mkC h1), (h1, .inl (cJ, 4, .inr (.inl f2))), (h2, .inl (cJ, 4, .inr (.inl ur2)))] t) (va_A [(h0, mkC h1), (h1, .inl (cJ, 4, .inr (.inl f))), (h2, .inl (cJ, 4, .inr (.inl ur)))] sz)) 0 0 (va_A [(h0, mkC h1), (h1, .inl (cJ, 4, .inr (.inl f))), (h2, .inl (cJ, 4, .inr (.inl ur)))] sz) := by
  refine Met.ofW (cc := cX4_writeTo) (maxL := 3) (ret := none) (by decide) rfl ?_
  intro p e s m args below meth c s₁ B hml hv
  obtain ⟨rfl, hsz, hP, hK, hD0, hN⟩ := hv
  have hx := B.exec
  have hb := B.bytes
  have hr := B.returns
  have hts := atoms_spec (ws := (wa yX4_writeTo cX4_writeTo 3 none)) B.pre
  have ha : ∀ w ∈ wsL_law, w.before _ s = true := fun w h => hts w (List.mem_cons_of_mem _ h)
  have hown : s.vm.findClass RX4 = some m.cls := findClass_of_methodNamed B.named
  have hlocks := B.notSynchronized
  subst hsz
  have hD := hD0.self (sz := s.heap.size)
  generalize hAe : va_A [(h0, mkC h1), (h1, .inl (cJ, 4, .inr (.inl f))), (h2, .inl (cJ, 4, .inr (.inl ur)))] s.heap.size = A at hD ⊢
  have hA : ∀ q : Nat, s.heap.size ≤ q → A q := fun q h => by rw [← hAe]; exact Or.inr h
  have hS : va_S A s.heap s.heap [] := va_S.rf
  have hP : va_P D vwCl [(h0, mkC h1), (h1, .inl (cJ, 4, .inr (.inl f))), (h2, .inl (cJ, 4, .inr (.inl ur)))] s.heap := hP
  have hl := lv_entry ([.ref h0, .ref h2]) (n := 3) (Nat.le_of_ble_eq_true rfl)
  rw [lg_entry_eq]
  generalize (lg_sl ([.ref h0, .ref h2]) ++ List.replicate (3 - (lg_sl ([.ref h0, .ref h2])).length) Slot.unset).toArray = ls at hl ⊢
  have hl : lv_has ls 3 [(0, .ref h0), (1, .ref h2)] := hl
  obtain ⟨QP, hQP⟩ : ∃ y : State → Prop, y = (MQ below (va_Qv (fun (_ : Unit) => True) (fun (_ : Unit) (t : State) => ∃ (f2 ur2 : Nat → Int64), (f2 = (xc_writeTo f ur).1 ∧ ur2 = (xc_writeTo f ur).2) ∧ pw_t D cI cJ cZ cO A [(h0, mkC h1), (h1, .inl (cJ, 4, .inr (.inl f2))), (h2, .inl (cJ, 4, .inr (.inl ur2)))] t) A) #[(.ref h0 : Value), (.ref h2 : Value)] s 0 0 A) := ⟨_, rfl⟩
  obtain ⟨RES, hRES⟩ : ∃ y, y = (xc_writeTo f ur) := ⟨_, rfl⟩
  -- from the entry
  have hE := hRES
  unfold xc_writeTo at hE
  refine lv_iconst (v := 0) hx hb dX4_writeTo_0 (by decide) ?_
  refine lv_istore_n (lv' := [(2, .int 0), (0, .ref h0), (1, .ref h2)]) hx hb dX4_writeTo_1 rfl hl (by decide) rfl (fun ls hl => ?_)
  refine lv_iload_n hx hb dX4_writeTo_2 rfl (lv_at hl 0 rfl) ?_
  refine lv_aload_n hx hb dX4_writeTo_3 rfl (lv_at hl 1 rfl) ?_
  refine va_get (D := D) (ci := 4) (v := .ref h1) (C := RX4) (T := TX4) (N := 1) hx hb ha inlX4 hown hK hP 0 rfl rfl 0 (by decide) (ha _ kf_X4_7) (fun _ h9 => h9) rfl dX4_writeTo_4 ?_
  refine va_alen hx hb hK hP 1 1 (v := 4) rfl rfl (show Int32.ofNat 4 = 4 by decide) dX4_writeTo_7 ?_
  refine lv_icmp_ge (tgt := 32) hx hb dX4_writeTo_8 (by decide) (fun c_22 => ?_) (fun c_22 => ?_)
  · exact absurd c_22 (by decide)
  refine lv_iload_n hx hb dX4_writeTo_11 rfl (lv_at hl 0 rfl) ?_
  refine lv_aload_n hx hb dX4_writeTo_12 rfl (lv_at hl 2 rfl) ?_
  refine va_alen hx hb hK hP 2 1 (v := 4) rfl rfl (show Int32.ofNat 4 = 4 by decide) dX4_writeTo_13 ?_
  refine lv_icmp_ge (tgt := 32) hx hb dX4_writeTo_14 (by decide) (fun c_23 => ?_) (fun c_23 => ?_)
  · exact absurd c_23 (by decide)
  refine lv_aload_n hx hb dX4_writeTo_17 rfl (lv_at hl 2 rfl) ?_
  refine lv_iload_n hx hb dX4_writeTo_18 rfl (lv_at hl 0 rfl) ?_
  refine lv_aload_n hx hb dX4_writeTo_19 rfl (lv_at hl 1 rfl) ?_
  refine va_get (D := D) (ci := 4) (v := .ref h1) (C := RX4) (T := TX4) (N := 1) hx hb ha inlX4 hown hK hP 0 rfl rfl 0 (by decide) (ha _ kf_X4_7) (fun _ h9 => h9) rfl dX4_writeTo_20 ?_
  refine lv_iload_n hx hb dX4_writeTo_23 rfl (lv_at hl 0 rfl) ?_
  refine va_lald hx hb hK hP 1 1 rfl rfl (by unfold vp_in; decide) dX4_writeTo_24 ?_
  refine lv_topl (fun y_24 ey_24 => ?_)
  have hE := bd_at ey_24 hE
  refine va_last hx hb hK hP hD hS 2 1 rfl rfl (by unfold vp_in; decide) dX4_writeTo_25 (fun H locs hP hD hS => ?_)
  have hP : va_P D vwCl [(h0, mkC h1), (h1, .inl (cJ, 4, .inr (.inl f))), (h2, .inl (cJ, 4, .inr (.inl (vp_updL ur ((0 : Int32).toNatClampNeg) y_24))))] H := hP
  have hD : va_D A [(h0, mkC h1), (h1, .inl (cJ, 4, .inr (.inl f))), (h2, .inl (cJ, 4, .inr (.inl (vp_updL ur ((0 : Int32).toNatClampNeg) y_24))))] := hD
  generalize hga_25 : vp_updL ur ((0 : Int32).toNatClampNeg) y_24 = ur at hP hD
  have hE := bs_at hga_25 hE
  refine lv_iinc (v := 1) (lv' := [(2, .int 1), (0, .ref h0), (1, .ref h2)]) hx hb dX4_writeTo_26 hl (k := 0) rfl (by decide) (by decide) rfl (fun ls hl => ?_)
  refine lv_goto (tgt := 2) hx hb dX4_writeTo_29 (by decide) ?_
  refine lv_iload_n hx hb dX4_writeTo_2 rfl (lv_at hl 0 rfl) ?_
  refine lv_aload_n hx hb dX4_writeTo_3 rfl (lv_at hl 1 rfl) ?_
  refine va_get (D := D) (ci := 4) (v := .ref h1) (C := RX4) (T := TX4) (N := 1) hx hb ha inlX4 hown hK hP 0 rfl rfl 0 (by decide) (ha _ kf_X4_7) (fun _ h9 => h9) rfl dX4_writeTo_4 ?_
  refine va_alen hx hb hK hP 1 1 (v := 4) rfl rfl (show Int32.ofNat 4 = 4 by decide) dX4_writeTo_7 ?_
  refine lv_icmp_ge (tgt := 32) hx hb dX4_writeTo_8 (by decide) (fun c_27 => ?_) (fun c_27 => ?_)
  · exact absurd c_27 (by decide)
  refine lv_iload_n hx hb dX4_writeTo_11 rfl (lv_at hl 0 rfl) ?_
  refine lv_aload_n hx hb dX4_writeTo_12 rfl (lv_at hl 2 rfl) ?_
  refine va_alen hx hb hK hP 2 1 (v := 4) rfl rfl (show Int32.ofNat 4 = 4 by decide) dX4_writeTo_13 ?_
  refine lv_icmp_ge (tgt := 32) hx hb dX4_writeTo_14 (by decide) (fun c_28 => ?_) (fun c_28 => ?_)
  · exact absurd c_28 (by decide)
  refine lv_aload_n hx hb dX4_writeTo_17 rfl (lv_at hl 2 rfl) ?_
  refine lv_iload_n hx hb dX4_writeTo_18 rfl (lv_at hl 0 rfl) ?_
  refine lv_aload_n hx hb dX4_writeTo_19 rfl (lv_at hl 1 rfl) ?_
  refine va_get (D := D) (ci := 4) (v := .ref h1) (C := RX4) (T := TX4) (N := 1) hx hb ha inlX4 hown hK hP 0 rfl rfl 0 (by decide) (ha _ kf_X4_7) (fun _ h9 => h9) rfl dX4_writeTo_20 ?_
  refine lv_iload_n hx hb dX4_writeTo_23 rfl (lv_at hl 0 rfl) ?_
  refine va_lald hx hb hK hP 1 1 rfl rfl (by unfold vp_in; decide) dX4_writeTo_24 ?_
  refine lv_topl (fun y_29 ey_29 => ?_)
  have hE := bd_at ey_29 hE
  refine va_last hx hb hK hP hD hS 2 1 rfl rfl (by unfold vp_in; decide) dX4_writeTo_25 (fun H locs hP hD hS => ?_)
  have hP : va_P D vwCl [(h0, mkC h1), (h1, .inl (cJ, 4, .inr (.inl f))), (h2, .inl (cJ, 4, .inr (.inl (vp_updL ur ((1 : Int32).toNatClampNeg) y_29))))] H := hP
  have hD : va_D A [(h0, mkC h1), (h1, .inl (cJ, 4, .inr (.inl f))), (h2, .inl (cJ, 4, .inr (.inl (vp_updL ur ((1 : Int32).toNatClampNeg) y_29))))] := hD
  generalize hga_30 : vp_updL ur ((1 : Int32).toNatClampNeg) y_29 = ur at hP hD
  have hE := bs_at hga_30 hE
  refine lv_iinc (v := 2) (lv' := [(2, .int 2), (0, .ref h0), (1, .ref h2)]) hx hb dX4_writeTo_26 hl (k := 0) rfl (by decide) (by decide) rfl (fun ls hl => ?_)
  refine lv_goto (tgt := 2) hx hb dX4_writeTo_29 (by decide) ?_
  refine lv_iload_n hx hb dX4_writeTo_2 rfl (lv_at hl 0 rfl) ?_
  refine lv_aload_n hx hb dX4_writeTo_3 rfl (lv_at hl 1 rfl) ?_
  refine va_get (D := D) (ci := 4) (v := .ref h1) (C := RX4) (T := TX4) (N := 1) hx hb ha inlX4 hown hK hP 0 rfl rfl 0 (by decide) (ha _ kf_X4_7) (fun _ h9 => h9) rfl dX4_writeTo_4 ?_
  refine va_alen hx hb hK hP 1 1 (v := 4) rfl rfl (show Int32.ofNat 4 = 4 by decide) dX4_writeTo_7 ?_
  refine lv_icmp_ge (tgt := 32) hx hb dX4_writeTo_8 (by decide) (fun c_32 => ?_) (fun c_32 => ?_)
  · exact absurd c_32 (by decide)
  refine lv_iload_n hx hb dX4_writeTo_11 rfl (lv_at hl 0 rfl) ?_
  refine lv_aload_n hx hb dX4_writeTo_12 rfl (lv_at hl 2 rfl) ?_
  refine va_alen hx hb hK hP 2 1 (v := 4) rfl rfl (show Int32.ofNat 4 = 4 by decide) dX4_writeTo_13 ?_
  refine lv_icmp_ge (tgt := 32) hx hb dX4_writeTo_14 (by decide) (fun c_33 => ?_) (fun c_33 => ?_)
  · exact absurd c_33 (by decide)
  refine lv_aload_n hx hb dX4_writeTo_17 rfl (lv_at hl 2 rfl) ?_
  refine lv_iload_n hx hb dX4_writeTo_18 rfl (lv_at hl 0 rfl) ?_
  refine lv_aload_n hx hb dX4_writeTo_19 rfl (lv_at hl 1 rfl) ?_
  refine va_get (D := D) (ci := 4) (v := .ref h1) (C := RX4) (T := TX4) (N := 1) hx hb ha inlX4 hown hK hP 0 rfl rfl 0 (by decide) (ha _ kf_X4_7) (fun _ h9 => h9) rfl dX4_writeTo_20 ?_
  refine lv_iload_n hx hb dX4_writeTo_23 rfl (lv_at hl 0 rfl) ?_
  refine va_lald hx hb hK hP 1 1 rfl rfl (by unfold vp_in; decide) dX4_writeTo_24 ?_
  refine lv_topl (fun y_34 ey_34 => ?_)
  have hE := bd_at ey_34 hE
  refine va_last hx hb hK hP hD hS 2 1 rfl rfl (by unfold vp_in; decide) dX4_writeTo_25 (fun H locs hP hD hS => ?_)
  have hP : va_P D vwCl [(h0, mkC h1), (h1, .inl (cJ, 4, .inr (.inl f))), (h2, .inl (cJ, 4, .inr (.inl (vp_updL ur ((2 : Int32).toNatClampNeg) y_34))))] H := hP
  have hD : va_D A [(h0, mkC h1), (h1, .inl (cJ, 4, .inr (.inl f))), (h2, .inl (cJ, 4, .inr (.inl (vp_updL ur ((2 : Int32).toNatClampNeg) y_34))))] := hD
  generalize hga_35 : vp_updL ur ((2 : Int32).toNatClampNeg) y_34 = ur at hP hD
  have hE := bs_at hga_35 hE
  refine lv_iinc (v := 3) (lv' := [(2, .int 3), (0, .ref h0), (1, .ref h2)]) hx hb dX4_writeTo_26 hl (k := 0) rfl (by decide) (by decide) rfl (fun ls hl => ?_)
  refine lv_goto (tgt := 2) hx hb dX4_writeTo_29 (by decide) ?_
  refine lv_iload_n hx hb dX4_writeTo_2 rfl (lv_at hl 0 rfl) ?_
  refine lv_aload_n hx hb dX4_writeTo_3 rfl (lv_at hl 1 rfl) ?_
  refine va_get (D := D) (ci := 4) (v := .ref h1) (C := RX4) (T := TX4) (N := 1) hx hb ha inlX4 hown hK hP 0 rfl rfl 0 (by decide) (ha _ kf_X4_7) (fun _ h9 => h9) rfl dX4_writeTo_4 ?_
  refine va_alen hx hb hK hP 1 1 (v := 4) rfl rfl (show Int32.ofNat 4 = 4 by decide) dX4_writeTo_7 ?_
  refine lv_icmp_ge (tgt := 32) hx hb dX4_writeTo_8 (by decide) (fun c_37 => ?_) (fun c_37 => ?_)
  · exact absurd c_37 (by decide)
  refine lv_iload_n hx hb dX4_writeTo_11 rfl (lv_at hl 0 rfl) ?_
  refine lv_aload_n hx hb dX4_writeTo_12 rfl (lv_at hl 2 rfl) ?_
  refine va_alen hx hb hK hP 2 1 (v := 4) rfl rfl (show Int32.ofNat 4 = 4 by decide) dX4_writeTo_13 ?_
  refine lv_icmp_ge (tgt := 32) hx hb dX4_writeTo_14 (by decide) (fun c_38 => ?_) (fun c_38 => ?_)
  · exact absurd c_38 (by decide)
  refine lv_aload_n hx hb dX4_writeTo_17 rfl (lv_at hl 2 rfl) ?_
  refine lv_iload_n hx hb dX4_writeTo_18 rfl (lv_at hl 0 rfl) ?_
  refine lv_aload_n hx hb dX4_writeTo_19 rfl (lv_at hl 1 rfl) ?_
  refine va_get (D := D) (ci := 4) (v := .ref h1) (C := RX4) (T := TX4) (N := 1) hx hb ha inlX4 hown hK hP 0 rfl rfl 0 (by decide) (ha _ kf_X4_7) (fun _ h9 => h9) rfl dX4_writeTo_20 ?_
  refine lv_iload_n hx hb dX4_writeTo_23 rfl (lv_at hl 0 rfl) ?_
  refine va_lald hx hb hK hP 1 1 rfl rfl (by unfold vp_in; decide) dX4_writeTo_24 ?_
  refine lv_topl (fun y_39 ey_39 => ?_)
  have hE := bd_at ey_39 hE
  refine va_last hx hb hK hP hD hS 2 1 rfl rfl (by unfold vp_in; decide) dX4_writeTo_25 (fun H locs hP hD hS => ?_)
  have hP : va_P D vwCl [(h0, mkC h1), (h1, .inl (cJ, 4, .inr (.inl f))), (h2, .inl (cJ, 4, .inr (.inl (vp_updL ur ((3 : Int32).toNatClampNeg) y_39))))] H := hP
  have hD : va_D A [(h0, mkC h1), (h1, .inl (cJ, 4, .inr (.inl f))), (h2, .inl (cJ, 4, .inr (.inl (vp_updL ur ((3 : Int32).toNatClampNeg) y_39))))] := hD
  generalize hga_40 : vp_updL ur ((3 : Int32).toNatClampNeg) y_39 = ur at hP hD
  have hE := bs_at hga_40 hE
  refine lv_iinc (v := 4) (lv' := [(2, .int 4), (0, .ref h0), (1, .ref h2)]) hx hb dX4_writeTo_26 hl (k := 0) rfl (by decide) (by decide) rfl (fun ls hl => ?_)
  refine lv_goto (tgt := 2) hx hb dX4_writeTo_29 (by decide) ?_
  refine lv_iload_n hx hb dX4_writeTo_2 rfl (lv_at hl 0 rfl) ?_
  refine lv_aload_n hx hb dX4_writeTo_3 rfl (lv_at hl 1 rfl) ?_
  refine va_get (D := D) (ci := 4) (v := .ref h1) (C := RX4) (T := TX4) (N := 1) hx hb ha inlX4 hown hK hP 0 rfl rfl 0 (by decide) (ha _ kf_X4_7) (fun _ h9 => h9) rfl dX4_writeTo_4 ?_
  refine va_alen hx hb hK hP 1 1 (v := 4) rfl rfl (show Int32.ofNat 4 = 4 by decide) dX4_writeTo_7 ?_
  refine lv_icmp_ge (tgt := 32) hx hb dX4_writeTo_8 (by decide) (fun c_42 => ?_) (fun c_42 => ?_)
  rotate_left
  · exact absurd (by decide) c_42
  have hP9 := hP.sub (ws' := [(h0, mkC h1), (h1, .inl (cJ, 4, .inr (.inl f))), (h2, .inl (cJ, 4, .inr (.inl ur)))]) [0, 1, 2] rfl
  have hD9 := hD.sub (ws' := [(h0, mkC h1), (h1, .inl (cJ, 4, .inr (.inl f))), (h2, .inl (cJ, 4, .inr (.inl ur)))]) [0, 1, 2] (by decide) rfl
  exact W.vret hx hb hr (fun t ht hW => ⟨⟨(), rfl, trivial, ⟨f, ur, ⟨(by rw [← hRES, hE]), (by rw [← hRES, hE])⟩, by rw [ht]; exact hP9, va_K.moved hW.alike hK, hD9⟩⟩, hS.F ht⟩) hS.2.2 dX4_writeTo_32

set_option maxRecDepth 100000 in
def xc_readFrom (f : Nat → Int64) (ur : Nat → Int64) : (Nat → Int64) × (Nat → Int64) := bd (ur (0 : Int32).toNatClampNeg) (fun w1 => bd (vp_updL f ((0 : Int32).toNatClampNeg) w1) (fun f => bd (ur (1 : Int32).toNatClampNeg) (fun w2 => bd (vp_updL f ((1 : Int32).toNatClampNeg) w2) (fun f => bd (ur (2 : Int32).toNatClampNeg) (fun w3 => bd (vp_updL f ((2 : Int32).toNatClampNeg) w3) (fun f => bd (ur (3 : Int32).toNatClampNeg) (fun w4 => bd (vp_updL f ((3 : Int32).toNatClampNeg) w4) (fun f => (f, ur)))))))))
set_option maxHeartbeats 4000000 in
set_option maxRecDepth 100000 in
theorem s_readFrom (l : Launch) (D : va_G) (cI cJ cZ cO : ClassId) (sz : Nat) (h0 h1 h2 : Nat) (f ur : Nat → Int64) : Met l yX4_readFrom (wa yX4_readFrom cX4_readFrom 3 none) ({ frames := 0, cells := 0, slots := 0, locals := 0 }) (va_Pc [.ref h0, .ref h2] (pw_s D cI cJ cZ cO sz [(h0, mkC h1), (h1, .inl (cJ, 4, .inr (.inl f))), (h2, .inl (cJ, 4, .inr (.inl ur)))])) (va_Qv (fun (_ : Unit) => True) (fun (_ : Unit) (t : State) => ∃ (f2 ur2 : Nat → Int64), (f2 = (xc_readFrom f ur).1 ∧ ur2 = (xc_readFrom f ur).2) ∧ pw_t D cI cJ cZ cO (va_A [(h0, mkC h1), (h1, .inl (cJ, 4, .inr (.inl f))), (h2, .inl (cJ, 4, .inr (.inl ur)))] sz) [(h0, mkC h1), (h1, .inl (cJ, 4, .inr (.inl f2))), (h2, .inl (cJ, 4, .inr (.inl ur2)))] t) (va_A [(h0, mkC h1), (h1, .inl (cJ, 4, .inr (.inl f))), (h2, .inl (cJ, 4, .inr (.inl ur)))] sz)) 0 0 (va_A [(h0, mkC h1), (h1, .inl (cJ, 4, .inr (.inl f))), (h2, .inl (cJ, 4, .inr (.inl ur)))] sz) := by
  refine Met.ofW (cc := cX4_readFrom) (maxL := 3) (ret := none) (by decide) rfl ?_
  intro p e s m args below meth c s₁ B hml hv
  obtain ⟨rfl, hsz, hP, hK, hD0, hN⟩ := hv
  have hx := B.exec
  have hb := B.bytes
  have hr := B.returns
  have hts := atoms_spec (ws := (wa yX4_readFrom cX4_readFrom 3 none)) B.pre
  have ha : ∀ w ∈ wsL_law, w.before _ s = true := fun w h => hts w (List.mem_cons_of_mem _ h)
  have hown : s.vm.findClass RX4 = some m.cls := findClass_of_methodNamed B.named
  have hlocks := B.notSynchronized
  subst hsz
  have hD := hD0.self (sz := s.heap.size)
  generalize hAe : va_A [(h0, mkC h1), (h1, .inl (cJ, 4, .inr (.inl f))), (h2, .inl (cJ, 4, .inr (.inl ur)))] s.heap.size = A at hD ⊢
  have hA : ∀ q : Nat, s.heap.size ≤ q → A q := fun q h => by rw [← hAe]; exact Or.inr h
  have hS : va_S A s.heap s.heap [] := va_S.rf
  have hP : va_P D vwCl [(h0, mkC h1), (h1, .inl (cJ, 4, .inr (.inl f))), (h2, .inl (cJ, 4, .inr (.inl ur)))] s.heap := hP
  have hl := lv_entry ([.ref h0, .ref h2]) (n := 3) (Nat.le_of_ble_eq_true rfl)
  rw [lg_entry_eq]
  generalize (lg_sl ([.ref h0, .ref h2]) ++ List.replicate (3 - (lg_sl ([.ref h0, .ref h2])).length) Slot.unset).toArray = ls at hl ⊢
  have hl : lv_has ls 3 [(0, .ref h0), (1, .ref h2)] := hl
  obtain ⟨QP, hQP⟩ : ∃ y : State → Prop, y = (MQ below (va_Qv (fun (_ : Unit) => True) (fun (_ : Unit) (t : State) => ∃ (f2 ur2 : Nat → Int64), (f2 = (xc_readFrom f ur).1 ∧ ur2 = (xc_readFrom f ur).2) ∧ pw_t D cI cJ cZ cO A [(h0, mkC h1), (h1, .inl (cJ, 4, .inr (.inl f2))), (h2, .inl (cJ, 4, .inr (.inl ur2)))] t) A) #[(.ref h0 : Value), (.ref h2 : Value)] s 0 0 A) := ⟨_, rfl⟩
  obtain ⟨RES, hRES⟩ : ∃ y, y = (xc_readFrom f ur) := ⟨_, rfl⟩
  -- from the entry
  have hE := hRES
  unfold xc_readFrom at hE
  refine lv_iconst (v := 0) hx hb dX4_readFrom_0 (by decide) ?_
  refine lv_istore_n (lv' := [(2, .int 0), (0, .ref h0), (1, .ref h2)]) hx hb dX4_readFrom_1 rfl hl (by decide) rfl (fun ls hl => ?_)
  refine lv_iload_n hx hb dX4_readFrom_2 rfl (lv_at hl 0 rfl) ?_
  refine lv_aload_n hx hb dX4_readFrom_3 rfl (lv_at hl 1 rfl) ?_
  refine va_get (D := D) (ci := 4) (v := .ref h1) (C := RX4) (T := TX4) (N := 1) hx hb ha inlX4 hown hK hP 0 rfl rfl 0 (by decide) (ha _ kf_X4_7) (fun _ h9 => h9) rfl dX4_readFrom_4 ?_
  refine va_alen hx hb hK hP 1 1 (v := 4) rfl rfl (show Int32.ofNat 4 = 4 by decide) dX4_readFrom_7 ?_
  refine lv_icmp_ge (tgt := 32) hx hb dX4_readFrom_8 (by decide) (fun c_22 => ?_) (fun c_22 => ?_)
  · exact absurd c_22 (by decide)
  refine lv_iload_n hx hb dX4_readFrom_11 rfl (lv_at hl 0 rfl) ?_
  refine lv_aload_n hx hb dX4_readFrom_12 rfl (lv_at hl 2 rfl) ?_
  refine va_alen hx hb hK hP 2 1 (v := 4) rfl rfl (show Int32.ofNat 4 = 4 by decide) dX4_readFrom_13 ?_
  refine lv_icmp_ge (tgt := 32) hx hb dX4_readFrom_14 (by decide) (fun c_23 => ?_) (fun c_23 => ?_)
  · exact absurd c_23 (by decide)
  refine lv_aload_n hx hb dX4_readFrom_17 rfl (lv_at hl 1 rfl) ?_
  refine va_get (D := D) (ci := 4) (v := .ref h1) (C := RX4) (T := TX4) (N := 1) hx hb ha inlX4 hown hK hP 0 rfl rfl 0 (by decide) (ha _ kf_X4_7) (fun _ h9 => h9) rfl dX4_readFrom_18 ?_
  refine lv_iload_n hx hb dX4_readFrom_21 rfl (lv_at hl 0 rfl) ?_
  refine lv_aload_n hx hb dX4_readFrom_22 rfl (lv_at hl 2 rfl) ?_
  refine lv_iload_n hx hb dX4_readFrom_23 rfl (lv_at hl 0 rfl) ?_
  refine va_lald hx hb hK hP 2 1 rfl rfl (by unfold vp_in; decide) dX4_readFrom_24 ?_
  refine lv_topl (fun y_24 ey_24 => ?_)
  have hE := bd_at ey_24 hE
  refine va_last hx hb hK hP hD hS 1 1 rfl rfl (by unfold vp_in; decide) dX4_readFrom_25 (fun H locs hP hD hS => ?_)
  have hP : va_P D vwCl [(h0, mkC h1), (h1, .inl (cJ, 4, .inr (.inl (vp_updL f ((0 : Int32).toNatClampNeg) y_24)))), (h2, .inl (cJ, 4, .inr (.inl ur)))] H := hP
  have hD : va_D A [(h0, mkC h1), (h1, .inl (cJ, 4, .inr (.inl (vp_updL f ((0 : Int32).toNatClampNeg) y_24)))), (h2, .inl (cJ, 4, .inr (.inl ur)))] := hD
  generalize hga_25 : vp_updL f ((0 : Int32).toNatClampNeg) y_24 = f at hP hD
  have hE := bs_at hga_25 hE
  refine lv_iinc (v := 1) (lv' := [(2, .int 1), (0, .ref h0), (1, .ref h2)]) hx hb dX4_readFrom_26 hl (k := 0) rfl (by decide) (by decide) rfl (fun ls hl => ?_)
  refine lv_goto (tgt := 2) hx hb dX4_readFrom_29 (by decide) ?_
  refine lv_iload_n hx hb dX4_readFrom_2 rfl (lv_at hl 0 rfl) ?_
  refine lv_aload_n hx hb dX4_readFrom_3 rfl (lv_at hl 1 rfl) ?_
  refine va_get (D := D) (ci := 4) (v := .ref h1) (C := RX4) (T := TX4) (N := 1) hx hb ha inlX4 hown hK hP 0 rfl rfl 0 (by decide) (ha _ kf_X4_7) (fun _ h9 => h9) rfl dX4_readFrom_4 ?_
  refine va_alen hx hb hK hP 1 1 (v := 4) rfl rfl (show Int32.ofNat 4 = 4 by decide) dX4_readFrom_7 ?_
  refine lv_icmp_ge (tgt := 32) hx hb dX4_readFrom_8 (by decide) (fun c_27 => ?_) (fun c_27 => ?_)
  · exact absurd c_27 (by decide)
  refine lv_iload_n hx hb dX4_readFrom_11 rfl (lv_at hl 0 rfl) ?_
  refine lv_aload_n hx hb dX4_readFrom_12 rfl (lv_at hl 2 rfl) ?_
  refine va_alen hx hb hK hP 2 1 (v := 4) rfl rfl (show Int32.ofNat 4 = 4 by decide) dX4_readFrom_13 ?_
  refine lv_icmp_ge (tgt := 32) hx hb dX4_readFrom_14 (by decide) (fun c_28 => ?_) (fun c_28 => ?_)
  · exact absurd c_28 (by decide)
  refine lv_aload_n hx hb dX4_readFrom_17 rfl (lv_at hl 1 rfl) ?_
  refine va_get (D := D) (ci := 4) (v := .ref h1) (C := RX4) (T := TX4) (N := 1) hx hb ha inlX4 hown hK hP 0 rfl rfl 0 (by decide) (ha _ kf_X4_7) (fun _ h9 => h9) rfl dX4_readFrom_18 ?_
  refine lv_iload_n hx hb dX4_readFrom_21 rfl (lv_at hl 0 rfl) ?_
  refine lv_aload_n hx hb dX4_readFrom_22 rfl (lv_at hl 2 rfl) ?_
  refine lv_iload_n hx hb dX4_readFrom_23 rfl (lv_at hl 0 rfl) ?_
  refine va_lald hx hb hK hP 2 1 rfl rfl (by unfold vp_in; decide) dX4_readFrom_24 ?_
  refine lv_topl (fun y_29 ey_29 => ?_)
  have hE := bd_at ey_29 hE
  refine va_last hx hb hK hP hD hS 1 1 rfl rfl (by unfold vp_in; decide) dX4_readFrom_25 (fun H locs hP hD hS => ?_)
  have hP : va_P D vwCl [(h0, mkC h1), (h1, .inl (cJ, 4, .inr (.inl (vp_updL f ((1 : Int32).toNatClampNeg) y_29)))), (h2, .inl (cJ, 4, .inr (.inl ur)))] H := hP
  have hD : va_D A [(h0, mkC h1), (h1, .inl (cJ, 4, .inr (.inl (vp_updL f ((1 : Int32).toNatClampNeg) y_29)))), (h2, .inl (cJ, 4, .inr (.inl ur)))] := hD
  generalize hga_30 : vp_updL f ((1 : Int32).toNatClampNeg) y_29 = f at hP hD
  have hE := bs_at hga_30 hE
  refine lv_iinc (v := 2) (lv' := [(2, .int 2), (0, .ref h0), (1, .ref h2)]) hx hb dX4_readFrom_26 hl (k := 0) rfl (by decide) (by decide) rfl (fun ls hl => ?_)
  refine lv_goto (tgt := 2) hx hb dX4_readFrom_29 (by decide) ?_
  refine lv_iload_n hx hb dX4_readFrom_2 rfl (lv_at hl 0 rfl) ?_
  refine lv_aload_n hx hb dX4_readFrom_3 rfl (lv_at hl 1 rfl) ?_
  refine va_get (D := D) (ci := 4) (v := .ref h1) (C := RX4) (T := TX4) (N := 1) hx hb ha inlX4 hown hK hP 0 rfl rfl 0 (by decide) (ha _ kf_X4_7) (fun _ h9 => h9) rfl dX4_readFrom_4 ?_
  refine va_alen hx hb hK hP 1 1 (v := 4) rfl rfl (show Int32.ofNat 4 = 4 by decide) dX4_readFrom_7 ?_
  refine lv_icmp_ge (tgt := 32) hx hb dX4_readFrom_8 (by decide) (fun c_32 => ?_) (fun c_32 => ?_)
  · exact absurd c_32 (by decide)
  refine lv_iload_n hx hb dX4_readFrom_11 rfl (lv_at hl 0 rfl) ?_
  refine lv_aload_n hx hb dX4_readFrom_12 rfl (lv_at hl 2 rfl) ?_
  refine va_alen hx hb hK hP 2 1 (v := 4) rfl rfl (show Int32.ofNat 4 = 4 by decide) dX4_readFrom_13 ?_
  refine lv_icmp_ge (tgt := 32) hx hb dX4_readFrom_14 (by decide) (fun c_33 => ?_) (fun c_33 => ?_)
  · exact absurd c_33 (by decide)
  refine lv_aload_n hx hb dX4_readFrom_17 rfl (lv_at hl 1 rfl) ?_
  refine va_get (D := D) (ci := 4) (v := .ref h1) (C := RX4) (T := TX4) (N := 1) hx hb ha inlX4 hown hK hP 0 rfl rfl 0 (by decide) (ha _ kf_X4_7) (fun _ h9 => h9) rfl dX4_readFrom_18 ?_
  refine lv_iload_n hx hb dX4_readFrom_21 rfl (lv_at hl 0 rfl) ?_
  refine lv_aload_n hx hb dX4_readFrom_22 rfl (lv_at hl 2 rfl) ?_
  refine lv_iload_n hx hb dX4_readFrom_23 rfl (lv_at hl 0 rfl) ?_
  refine va_lald hx hb hK hP 2 1 rfl rfl (by unfold vp_in; decide) dX4_readFrom_24 ?_
  refine lv_topl (fun y_34 ey_34 => ?_)
  have hE := bd_at ey_34 hE
  refine va_last hx hb hK hP hD hS 1 1 rfl rfl (by unfold vp_in; decide) dX4_readFrom_25 (fun H locs hP hD hS => ?_)
  have hP : va_P D vwCl [(h0, mkC h1), (h1, .inl (cJ, 4, .inr (.inl (vp_updL f ((2 : Int32).toNatClampNeg) y_34)))), (h2, .inl (cJ, 4, .inr (.inl ur)))] H := hP
  have hD : va_D A [(h0, mkC h1), (h1, .inl (cJ, 4, .inr (.inl (vp_updL f ((2 : Int32).toNatClampNeg) y_34)))), (h2, .inl (cJ, 4, .inr (.inl ur)))] := hD
  generalize hga_35 : vp_updL f ((2 : Int32).toNatClampNeg) y_34 = f at hP hD
  have hE := bs_at hga_35 hE
  refine lv_iinc (v := 3) (lv' := [(2, .int 3), (0, .ref h0), (1, .ref h2)]) hx hb dX4_readFrom_26 hl (k := 0) rfl (by decide) (by decide) rfl (fun ls hl => ?_)
  refine lv_goto (tgt := 2) hx hb dX4_readFrom_29 (by decide) ?_
  refine lv_iload_n hx hb dX4_readFrom_2 rfl (lv_at hl 0 rfl) ?_
  refine lv_aload_n hx hb dX4_readFrom_3 rfl (lv_at hl 1 rfl) ?_
  refine va_get (D := D) (ci := 4) (v := .ref h1) (C := RX4) (T := TX4) (N := 1) hx hb ha inlX4 hown hK hP 0 rfl rfl 0 (by decide) (ha _ kf_X4_7) (fun _ h9 => h9) rfl dX4_readFrom_4 ?_
  refine va_alen hx hb hK hP 1 1 (v := 4) rfl rfl (show Int32.ofNat 4 = 4 by decide) dX4_readFrom_7 ?_
  refine lv_icmp_ge (tgt := 32) hx hb dX4_readFrom_8 (by decide) (fun c_37 => ?_) (fun c_37 => ?_)
  · exact absurd c_37 (by decide)
  refine lv_iload_n hx hb dX4_readFrom_11 rfl (lv_at hl 0 rfl) ?_
  refine lv_aload_n hx hb dX4_readFrom_12 rfl (lv_at hl 2 rfl) ?_
  refine va_alen hx hb hK hP 2 1 (v := 4) rfl rfl (show Int32.ofNat 4 = 4 by decide) dX4_readFrom_13 ?_
  refine lv_icmp_ge (tgt := 32) hx hb dX4_readFrom_14 (by decide) (fun c_38 => ?_) (fun c_38 => ?_)
  · exact absurd c_38 (by decide)
  refine lv_aload_n hx hb dX4_readFrom_17 rfl (lv_at hl 1 rfl) ?_
  refine va_get (D := D) (ci := 4) (v := .ref h1) (C := RX4) (T := TX4) (N := 1) hx hb ha inlX4 hown hK hP 0 rfl rfl 0 (by decide) (ha _ kf_X4_7) (fun _ h9 => h9) rfl dX4_readFrom_18 ?_
  refine lv_iload_n hx hb dX4_readFrom_21 rfl (lv_at hl 0 rfl) ?_
  refine lv_aload_n hx hb dX4_readFrom_22 rfl (lv_at hl 2 rfl) ?_
  refine lv_iload_n hx hb dX4_readFrom_23 rfl (lv_at hl 0 rfl) ?_
  refine va_lald hx hb hK hP 2 1 rfl rfl (by unfold vp_in; decide) dX4_readFrom_24 ?_
  refine lv_topl (fun y_39 ey_39 => ?_)
  have hE := bd_at ey_39 hE
  refine va_last hx hb hK hP hD hS 1 1 rfl rfl (by unfold vp_in; decide) dX4_readFrom_25 (fun H locs hP hD hS => ?_)
  have hP : va_P D vwCl [(h0, mkC h1), (h1, .inl (cJ, 4, .inr (.inl (vp_updL f ((3 : Int32).toNatClampNeg) y_39)))), (h2, .inl (cJ, 4, .inr (.inl ur)))] H := hP
  have hD : va_D A [(h0, mkC h1), (h1, .inl (cJ, 4, .inr (.inl (vp_updL f ((3 : Int32).toNatClampNeg) y_39)))), (h2, .inl (cJ, 4, .inr (.inl ur)))] := hD
  generalize hga_40 : vp_updL f ((3 : Int32).toNatClampNeg) y_39 = f at hP hD
  have hE := bs_at hga_40 hE
  refine lv_iinc (v := 4) (lv' := [(2, .int 4), (0, .ref h0), (1, .ref h2)]) hx hb dX4_readFrom_26 hl (k := 0) rfl (by decide) (by decide) rfl (fun ls hl => ?_)
  refine lv_goto (tgt := 2) hx hb dX4_readFrom_29 (by decide) ?_
  refine lv_iload_n hx hb dX4_readFrom_2 rfl (lv_at hl 0 rfl) ?_
  refine lv_aload_n hx hb dX4_readFrom_3 rfl (lv_at hl 1 rfl) ?_
  refine va_get (D := D) (ci := 4) (v := .ref h1) (C := RX4) (T := TX4) (N := 1) hx hb ha inlX4 hown hK hP 0 rfl rfl 0 (by decide) (ha _ kf_X4_7) (fun _ h9 => h9) rfl dX4_readFrom_4 ?_
  refine va_alen hx hb hK hP 1 1 (v := 4) rfl rfl (show Int32.ofNat 4 = 4 by decide) dX4_readFrom_7 ?_
  refine lv_icmp_ge (tgt := 32) hx hb dX4_readFrom_8 (by decide) (fun c_42 => ?_) (fun c_42 => ?_)
  rotate_left
  · exact absurd (by decide) c_42
  have hP9 := hP.sub (ws' := [(h0, mkC h1), (h1, .inl (cJ, 4, .inr (.inl f))), (h2, .inl (cJ, 4, .inr (.inl ur)))]) [0, 1, 2] rfl
  have hD9 := hD.sub (ws' := [(h0, mkC h1), (h1, .inl (cJ, 4, .inr (.inl f))), (h2, .inl (cJ, 4, .inr (.inl ur)))]) [0, 1, 2] (by decide) rfl
  exact W.vret hx hb hr (fun t ht hW => ⟨⟨(), rfl, trivial, ⟨f, ur, ⟨(by rw [← hRES, hE]), (by rw [← hRES, hE])⟩, by rw [ht]; exact hP9, va_K.moved hW.alike hK, hD9⟩⟩, hS.F ht⟩) hS.2.2 dX4_readFrom_32

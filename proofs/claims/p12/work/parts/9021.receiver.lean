set_option maxRecDepth 100000 in
def xc_rtell (n0 : Int32) (w0 : Int32) (rv : Nat → Int32) (f : Nat → Int64) (n1 : Int32) : (Nat → Int32) × (Nat → Int64) × Int32 := (if n1 = 0 then bd (rv 2) (fun v6 => (rv, f, v6)) else (if n1 = 1 then bd (rv 5) (fun v5 => (rv, f, v5)) else (if n1 = 2 then (rv, f, w0) else (if n1 = 3 then bd (rv 6) (fun v4 => (rv, f, v4)) else (if n1 = 4 then bd (rv 7) (fun v3 => (rv, f, v3)) else (if n1 = 5 then bd (rv 8) (fun v2 => (rv, f, v2)) else (if n1 = 6 then bd (rv 9) (fun v1 => (rv, f, v1)) else (rv, f, ((-1) : Int32)))))))))
set_option maxHeartbeats 4000000 in
set_option maxRecDepth 100000 in
theorem s_rtell (l : Launch) (D : va_G) (cI cJ cZ cO : ClassId) (sz : Nat) (h0 h1 h2 : Nat) (n0 w0 : Int32) (rv : Nat → Int32) (f : Nat → Int64) (n1 : Int32) : Met l yX6_tell (wa yX6_tell cX6_tell 2 (some .int)) ({ frames := 0, cells := 0, slots := 0, locals := 0 }) (va_Pc [.ref h0, .int n1] (pw_s D cI cJ cZ cO sz [(h0, rcC n0 rv w0 h1), (h1, mkC h2), (h2, .inl (cJ, 4, .inr (.inl f)))])) (va_Qi (fun (r : Int32) (_ : Unit) => ((True) ∧ r = (xc_rtell n0 w0 rv f n1).2.2)) (fun (_ : Unit) (t : State) => ∃ (rv2 : Nat → Int32) (f2 : Nat → Int64), (rv2 = (xc_rtell n0 w0 rv f n1).1 ∧ f2 = (xc_rtell n0 w0 rv f n1).2.1) ∧ pw_t D cI cJ cZ cO (va_A [(h0, rcC n0 rv w0 h1), (h1, mkC h2), (h2, .inl (cJ, 4, .inr (.inl f)))] sz) [(h0, rcC n0 rv2 w0 h1), (h1, mkC h2), (h2, .inl (cJ, 4, .inr (.inl f2)))] t) (va_A [(h0, rcC n0 rv w0 h1), (h1, mkC h2), (h2, .inl (cJ, 4, .inr (.inl f)))] sz)) 0 0 (va_A [(h0, rcC n0 rv w0 h1), (h1, mkC h2), (h2, .inl (cJ, 4, .inr (.inl f)))] sz) := by
  refine Met.ofW (cc := cX6_tell) (maxL := 2) (ret := (some .int)) (by decide) rfl ?_
  intro p e s m args below meth c s₁ B hml hv
  obtain ⟨rfl, hsz, hP, hK, hD0, hN⟩ := hv
  have hx := B.exec
  have hb := B.bytes
  have hr := B.returns
  have hts := atoms_spec (ws := (wa yX6_tell cX6_tell 2 (some .int))) B.pre
  have ha : ∀ w ∈ wsL_law, w.before _ s = true := fun w h => hts w (List.mem_cons_of_mem _ h)
  have hown : s.vm.findClass RX6 = some m.cls := findClass_of_methodNamed B.named
  have hlocks := B.notSynchronized
  subst hsz
  have hD := hD0.self (sz := s.heap.size)
  generalize hAe : va_A [(h0, rcC n0 rv w0 h1), (h1, mkC h2), (h2, .inl (cJ, 4, .inr (.inl f)))] s.heap.size = A at hD ⊢
  have hA : ∀ q : Nat, s.heap.size ≤ q → A q := fun q h => by rw [← hAe]; exact Or.inr h
  have hS : va_S A s.heap s.heap [] := va_S.rf
  have hP : va_P D vwCl [(h0, rcC n0 rv w0 h1), (h1, mkC h2), (h2, .inl (cJ, 4, .inr (.inl f)))] s.heap := hP
  have hl := lv_entry ([.ref h0, .int n1]) (n := 2) (Nat.le_of_ble_eq_true rfl)
  rw [lg_entry_eq]
  generalize (lg_sl ([.ref h0, .int n1]) ++ List.replicate (2 - (lg_sl ([.ref h0, .int n1])).length) Slot.unset).toArray = ls at hl ⊢
  have hl : lv_has ls 2 [(0, .ref h0), (1, .int n1)] := hl
  obtain ⟨QP, hQP⟩ : ∃ y : State → Prop, y = (MQ below (va_Qi (fun (r : Int32) (_ : Unit) => ((True) ∧ r = (xc_rtell n0 w0 rv f n1).2.2)) (fun (_ : Unit) (t : State) => ∃ (rv2 : Nat → Int32) (f2 : Nat → Int64), (rv2 = (xc_rtell n0 w0 rv f n1).1 ∧ f2 = (xc_rtell n0 w0 rv f n1).2.1) ∧ pw_t D cI cJ cZ cO A [(h0, rcC n0 rv2 w0 h1), (h1, mkC h2), (h2, .inl (cJ, 4, .inr (.inl f2)))] t) A) #[(.ref h0 : Value), (.int n1 : Value)] s 0 0 A) := ⟨_, rfl⟩
  obtain ⟨RES, hRES⟩ : ∃ y, y = (xc_rtell n0 w0 rv f n1) := ⟨_, rfl⟩
  -- from the entry
  have hE := hRES
  unfold xc_rtell at hE
  refine lv_iload_n hx hb dX6_tell_0 rfl (lv_at hl 1 rfl) ?_
  by_cases t_8_0 : n1 = 0
  · have hE := hE.trans (if_pos t_8_0)
    refine lv_tableIn (tgt := 44) (off := 43) hx hb dX6_tell_1 (by rw [t_8_0]; decide) (by rw [t_8_0]; decide) (by rw [t_8_0]; rfl) (by decide) ?_
    refine lv_aload_n hx hb dX6_tell_44 rfl (lv_at hl 0 rfl) ?_
    refine va_get (D := D) (ci := 6) (v := .int (rv 2)) (C := RX6) (T := TX6) (N := 11) hx hb ha inlX6 hown hK hP 0 rfl rfl 2 (by decide) (ha _ kf_X6_38) (fun _ h9 => h9) rfl dX6_tell_45 ?_
    refine lv_topi (fun x_9 ex_9 => ?_)
    have hE := bd_at ex_9 hE
    have hP9 := hP.sub (ws' := [(h0, rcC n0 rv w0 h1), (h1, mkC h2), (h2, .inl (cJ, 4, .inr (.inl f)))]) [0, 1, 2] rfl
    have hD9 := hD.sub (ws' := [(h0, rcC n0 rv w0 h1), (h1, mkC h2), (h2, .inl (cJ, 4, .inr (.inl f)))]) [0, 1, 2] (by decide) rfl
    exact W.iret (v := x_9) hx hb hr (fun t ht hW => ⟨⟨x_9, (), rfl, ⟨(by decide), (by rw [← hRES, hE])⟩, ⟨rv, f, ⟨(by rw [← hRES, hE]), (by rw [← hRES, hE])⟩, by rw [ht]; exact hP9, va_K.moved hW.alike hK, hD9⟩⟩, hS.F ht⟩) hS.2.2 dX6_tell_48
  have hE := hE.trans (if_neg t_8_0)
  by_cases t_8_1 : n1 = 1
  · have hE := hE.trans (if_pos t_8_1)
    refine lv_tableIn (tgt := 49) (off := 48) hx hb dX6_tell_1 (by rw [t_8_1]; decide) (by rw [t_8_1]; decide) (by rw [t_8_1]; rfl) (by decide) ?_
    refine lv_aload_n hx hb dX6_tell_49 rfl (lv_at hl 0 rfl) ?_
    refine va_get (D := D) (ci := 6) (v := .int (rv 5)) (C := RX6) (T := TX6) (N := 11) hx hb ha inlX6 hown hK hP 0 rfl rfl 5 (by decide) (ha _ kf_X6_41) (fun _ h9 => h9) rfl dX6_tell_50 ?_
    refine lv_topi (fun x_10 ex_10 => ?_)
    have hE := bd_at ex_10 hE
    have hP9 := hP.sub (ws' := [(h0, rcC n0 rv w0 h1), (h1, mkC h2), (h2, .inl (cJ, 4, .inr (.inl f)))]) [0, 1, 2] rfl
    have hD9 := hD.sub (ws' := [(h0, rcC n0 rv w0 h1), (h1, mkC h2), (h2, .inl (cJ, 4, .inr (.inl f)))]) [0, 1, 2] (by decide) rfl
    exact W.iret (v := x_10) hx hb hr (fun t ht hW => ⟨⟨x_10, (), rfl, ⟨(by decide), (by rw [← hRES, hE])⟩, ⟨rv, f, ⟨(by rw [← hRES, hE]), (by rw [← hRES, hE])⟩, by rw [ht]; exact hP9, va_K.moved hW.alike hK, hD9⟩⟩, hS.F ht⟩) hS.2.2 dX6_tell_53
  have hE := hE.trans (if_neg t_8_1)
  by_cases t_8_2 : n1 = 2
  · have hE := hE.trans (if_pos t_8_2)
    refine lv_tableIn (tgt := 54) (off := 53) hx hb dX6_tell_1 (by rw [t_8_2]; decide) (by rw [t_8_2]; decide) (by rw [t_8_2]; rfl) (by decide) ?_
    refine lv_aload_n hx hb dX6_tell_54 rfl (lv_at hl 0 rfl) ?_
    refine va_get (D := D) (ci := 6) (v := .int w0) (C := RX6) (T := TX6) (N := 11) hx hb ha inlX6 hown hK hP 0 rfl rfl 3 (by decide) (ha _ kf_X6_9) (fun _ h9 => h9) rfl dX6_tell_55 ?_
    have hP9 := hP.sub (ws' := [(h0, rcC n0 rv w0 h1), (h1, mkC h2), (h2, .inl (cJ, 4, .inr (.inl f)))]) [0, 1, 2] rfl
    have hD9 := hD.sub (ws' := [(h0, rcC n0 rv w0 h1), (h1, mkC h2), (h2, .inl (cJ, 4, .inr (.inl f)))]) [0, 1, 2] (by decide) rfl
    exact W.iret (v := w0) hx hb hr (fun t ht hW => ⟨⟨w0, (), rfl, ⟨(by decide), (by rw [← hRES, hE])⟩, ⟨rv, f, ⟨(by rw [← hRES, hE]), (by rw [← hRES, hE])⟩, by rw [ht]; exact hP9, va_K.moved hW.alike hK, hD9⟩⟩, hS.F ht⟩) hS.2.2 dX6_tell_58
  have hE := hE.trans (if_neg t_8_2)
  by_cases t_8_3 : n1 = 3
  · have hE := hE.trans (if_pos t_8_3)
    refine lv_tableIn (tgt := 59) (off := 58) hx hb dX6_tell_1 (by rw [t_8_3]; decide) (by rw [t_8_3]; decide) (by rw [t_8_3]; rfl) (by decide) ?_
    refine lv_aload_n hx hb dX6_tell_59 rfl (lv_at hl 0 rfl) ?_
    refine va_get (D := D) (ci := 6) (v := .int (rv 6)) (C := RX6) (T := TX6) (N := 11) hx hb ha inlX6 hown hK hP 0 rfl rfl 6 (by decide) (ha _ kf_X6_68) (fun _ h9 => h9) rfl dX6_tell_60 ?_
    refine lv_topi (fun x_11 ex_11 => ?_)
    have hE := bd_at ex_11 hE
    have hP9 := hP.sub (ws' := [(h0, rcC n0 rv w0 h1), (h1, mkC h2), (h2, .inl (cJ, 4, .inr (.inl f)))]) [0, 1, 2] rfl
    have hD9 := hD.sub (ws' := [(h0, rcC n0 rv w0 h1), (h1, mkC h2), (h2, .inl (cJ, 4, .inr (.inl f)))]) [0, 1, 2] (by decide) rfl
    exact W.iret (v := x_11) hx hb hr (fun t ht hW => ⟨⟨x_11, (), rfl, ⟨(by decide), (by rw [← hRES, hE])⟩, ⟨rv, f, ⟨(by rw [← hRES, hE]), (by rw [← hRES, hE])⟩, by rw [ht]; exact hP9, va_K.moved hW.alike hK, hD9⟩⟩, hS.F ht⟩) hS.2.2 dX6_tell_63
  have hE := hE.trans (if_neg t_8_3)
  by_cases t_8_4 : n1 = 4
  · have hE := hE.trans (if_pos t_8_4)
    refine lv_tableIn (tgt := 64) (off := 63) hx hb dX6_tell_1 (by rw [t_8_4]; decide) (by rw [t_8_4]; decide) (by rw [t_8_4]; rfl) (by decide) ?_
    refine lv_aload_n hx hb dX6_tell_64 rfl (lv_at hl 0 rfl) ?_
    refine va_get (D := D) (ci := 6) (v := .int (rv 7)) (C := RX6) (T := TX6) (N := 11) hx hb ha inlX6 hown hK hP 0 rfl rfl 7 (by decide) (ha _ kf_X6_44) (fun _ h9 => h9) rfl dX6_tell_65 ?_
    refine lv_topi (fun x_12 ex_12 => ?_)
    have hE := bd_at ex_12 hE
    have hP9 := hP.sub (ws' := [(h0, rcC n0 rv w0 h1), (h1, mkC h2), (h2, .inl (cJ, 4, .inr (.inl f)))]) [0, 1, 2] rfl
    have hD9 := hD.sub (ws' := [(h0, rcC n0 rv w0 h1), (h1, mkC h2), (h2, .inl (cJ, 4, .inr (.inl f)))]) [0, 1, 2] (by decide) rfl
    exact W.iret (v := x_12) hx hb hr (fun t ht hW => ⟨⟨x_12, (), rfl, ⟨(by decide), (by rw [← hRES, hE])⟩, ⟨rv, f, ⟨(by rw [← hRES, hE]), (by rw [← hRES, hE])⟩, by rw [ht]; exact hP9, va_K.moved hW.alike hK, hD9⟩⟩, hS.F ht⟩) hS.2.2 dX6_tell_68
  have hE := hE.trans (if_neg t_8_4)
  by_cases t_8_5 : n1 = 5
  · have hE := hE.trans (if_pos t_8_5)
    refine lv_tableIn (tgt := 69) (off := 68) hx hb dX6_tell_1 (by rw [t_8_5]; decide) (by rw [t_8_5]; decide) (by rw [t_8_5]; rfl) (by decide) ?_
    refine lv_aload_n hx hb dX6_tell_69 rfl (lv_at hl 0 rfl) ?_
    refine va_get (D := D) (ci := 6) (v := .int (rv 8)) (C := RX6) (T := TX6) (N := 11) hx hb ha inlX6 hown hK hP 0 rfl rfl 8 (by decide) (ha _ kf_X6_58) (fun _ h9 => h9) rfl dX6_tell_70 ?_
    refine lv_topi (fun x_13 ex_13 => ?_)
    have hE := bd_at ex_13 hE
    have hP9 := hP.sub (ws' := [(h0, rcC n0 rv w0 h1), (h1, mkC h2), (h2, .inl (cJ, 4, .inr (.inl f)))]) [0, 1, 2] rfl
    have hD9 := hD.sub (ws' := [(h0, rcC n0 rv w0 h1), (h1, mkC h2), (h2, .inl (cJ, 4, .inr (.inl f)))]) [0, 1, 2] (by decide) rfl
    exact W.iret (v := x_13) hx hb hr (fun t ht hW => ⟨⟨x_13, (), rfl, ⟨(by decide), (by rw [← hRES, hE])⟩, ⟨rv, f, ⟨(by rw [← hRES, hE]), (by rw [← hRES, hE])⟩, by rw [ht]; exact hP9, va_K.moved hW.alike hK, hD9⟩⟩, hS.F ht⟩) hS.2.2 dX6_tell_73
  have hE := hE.trans (if_neg t_8_5)
  by_cases t_8_6 : n1 = 6
  · have hE := hE.trans (if_pos t_8_6)
    refine lv_tableIn (tgt := 74) (off := 73) hx hb dX6_tell_1 (by rw [t_8_6]; decide) (by rw [t_8_6]; decide) (by rw [t_8_6]; rfl) (by decide) ?_
    refine lv_aload_n hx hb dX6_tell_74 rfl (lv_at hl 0 rfl) ?_
    refine va_get (D := D) (ci := 6) (v := .int (rv 9)) (C := RX6) (T := TX6) (N := 11) hx hb ha inlX6 hown hK hP 0 rfl rfl 9 (by decide) (ha _ kf_X6_22) (fun _ h9 => h9) rfl dX6_tell_75 ?_
    refine lv_topi (fun x_14 ex_14 => ?_)
    have hE := bd_at ex_14 hE
    have hP9 := hP.sub (ws' := [(h0, rcC n0 rv w0 h1), (h1, mkC h2), (h2, .inl (cJ, 4, .inr (.inl f)))]) [0, 1, 2] rfl
    have hD9 := hD.sub (ws' := [(h0, rcC n0 rv w0 h1), (h1, mkC h2), (h2, .inl (cJ, 4, .inr (.inl f)))]) [0, 1, 2] (by decide) rfl
    exact W.iret (v := x_14) hx hb hr (fun t ht hW => ⟨⟨x_14, (), rfl, ⟨(by decide), (by rw [← hRES, hE])⟩, ⟨rv, f, ⟨(by rw [← hRES, hE]), (by rw [← hRES, hE])⟩, by rw [ht]; exact hP9, va_K.moved hW.alike hK, hD9⟩⟩, hS.F ht⟩) hS.2.2 dX6_tell_78
  have hE := hE.trans (if_neg t_8_6)
  refine lv_tableOut (tgt := 79) hx hb dX6_tell_1 (by have h0 := lv_neT (a := 0) t_8_0 (by decide); have h1 := lv_neT (a := 1) t_8_1 (by decide); have h2 := lv_neT (a := 2) t_8_2 (by decide); have h3 := lv_neT (a := 3) t_8_3 (by decide); have h4 := lv_neT (a := 4) t_8_4 (by decide); have h5 := lv_neT (a := 5) t_8_5 (by decide); have h6 := lv_neT (a := 6) t_8_6 (by decide); omega) (by decide) ?_
  refine lv_iconst (v := (-1)) hx hb dX6_tell_79 (by decide) ?_
  have hP9 := hP.sub (ws' := [(h0, rcC n0 rv w0 h1), (h1, mkC h2), (h2, .inl (cJ, 4, .inr (.inl f)))]) [0, 1, 2] rfl
  have hD9 := hD.sub (ws' := [(h0, rcC n0 rv w0 h1), (h1, mkC h2), (h2, .inl (cJ, 4, .inr (.inl f)))]) [0, 1, 2] (by decide) rfl
  exact W.iret (v := (-1)) hx hb hr (fun t ht hW => ⟨⟨(-1), (), rfl, ⟨(by decide), (by rw [← hRES, hE])⟩, ⟨rv, f, ⟨(by rw [← hRES, hE]), (by rw [← hRES, hE])⟩, by rw [ht]; exact hP9, va_K.moved hW.alike hK, hD9⟩⟩, hS.F ht⟩) hS.2.2 dX6_tell_80

set_option maxRecDepth 100000 in
def xc_leastKept_43 (n0 : Int32) (w0 : Int32) (n1 : Int32) (k_7 : (Nat → Int32) → (Nat → Int64) → Int32 → Int32 → Int32 → (Nat → Int32) × (Nat → Int64) × Int32) (rv : Nat → Int32) (f : Nat → Int64) (i1 : Int32) (i2 : Int32) (i3 : Int32) : (Nat → Int32) × (Nat → Int64) × Int32 := bd (i3 + 1) (fun v1 => k_7 rv f i1 i2 v1)
set_option maxRecDepth 100000 in
def xc_leastKept_7 (n0 : Int32) (w0 : Int32) (n1 : Int32) : Nat → (Nat → Int32) → (Nat → Int64) → Int32 → Int32 → Int32 → (Nat → Int32) × (Nat → Int64) × Int32
  | 0, rv, f, i1, i2, i3 => (rv, f, 0)
  | fu + 1, rv, f, i1, i2, i3 => (if i2 < (0 : Int32) then (rv, f, ((-1) : Int32)) else bd (rv 2) (fun v2 => bd (v2 + (200 : Int32)) (fun v3 => (if v3 ≤ i3 then (rv, f, ((-1) : Int32)) else bd (xc_has f i3) (fun t4 => bd (t4.1) (fun f => bd (t4.2) (fun v5 => (if v5 = (0 : Int32) then xc_leastKept_43 n0 w0 n1 (xc_leastKept_7 n0 w0 n1 fu) rv f i1 i2 i3 else (if i2 = (0 : Int32) then (rv, f, i3) else bd (i2 + (-1)) (fun v6 => xc_leastKept_43 n0 w0 n1 (xc_leastKept_7 n0 w0 n1 fu) rv f i1 v6 i3))))))))))
set_option maxRecDepth 100000 in
def xc_leastKept (n0 : Int32) (w0 : Int32) (rv : Nat → Int32) (f : Nat → Int64) (n1 : Int32) : (Nat → Int32) × (Nat → Int64) × Int32 := bd (rv 2) (fun v7 => xc_leastKept_7 n0 w0 n1 (((rv 2 + 200).toInt - v7.toInt).toNat + 1) rv f n1 n1 v7)
set_option maxHeartbeats 4000000 in
set_option maxRecDepth 100000 in
theorem s_leastKept (l : Launch) (D : va_G) (cI cJ cZ cO : ClassId) (sz : Nat) (h0 h1 h2 : Nat) (n0 w0 : Int32) (rv : Nat → Int32) (f : Nat → Int64) (n1 : Int32) : Met l yX6_leastKept (wa yX6_leastKept cX6_leastKept 4 (some .int)) ({ frames := 1, cells := 0, slots := 0, locals := 21 }) (va_Pc [.ref h0, .int n1] (pw_s D cI cJ cZ cO sz [(h0, rcC n0 rv w0 h1), (h1, mkC h2), (h2, .inl (cJ, 4, .inr (.inl f)))])) (va_Qi (fun (r : Int32) (_ : Unit) => ((True) ∧ r = (xc_leastKept n0 w0 rv f n1).2.2)) (fun (_ : Unit) (t : State) => ∃ (rv2 : Nat → Int32) (f2 : Nat → Int64), (rv2 = (xc_leastKept n0 w0 rv f n1).1 ∧ f2 = (xc_leastKept n0 w0 rv f n1).2.1) ∧ pw_t D cI cJ cZ cO (va_A [(h0, rcC n0 rv w0 h1), (h1, mkC h2), (h2, .inl (cJ, 4, .inr (.inl f)))] sz) [(h0, rcC n0 rv2 w0 h1), (h1, mkC h2), (h2, .inl (cJ, 4, .inr (.inl f2)))] t) (va_A [(h0, rcC n0 rv w0 h1), (h1, mkC h2), (h2, .inl (cJ, 4, .inr (.inl f)))] sz)) 0 0 (va_A [(h0, rcC n0 rv w0 h1), (h1, mkC h2), (h2, .inl (cJ, 4, .inr (.inl f)))] sz) := by
  refine Met.ofW (cc := cX6_leastKept) (maxL := 4) (ret := (some .int)) (by decide) rfl ?_
  intro p e s m args below meth c s₁ B hml hv
  obtain ⟨rfl, hsz, hP, hK, hD0, hN⟩ := hv
  have hx := B.exec
  have hb := B.bytes
  have hr := B.returns
  have hts := atoms_spec (ws := (wa yX6_leastKept cX6_leastKept 4 (some .int))) B.pre
  have ha : ∀ w ∈ wsL_law, w.before _ s = true := fun w h => hts w (List.mem_cons_of_mem _ h)
  have hown : s.vm.findClass RX6 = some m.cls := findClass_of_methodNamed B.named
  have hlocks := B.notSynchronized
  subst hsz
  have hD := hD0.self (sz := s.heap.size)
  generalize hAe : va_A [(h0, rcC n0 rv w0 h1), (h1, mkC h2), (h2, .inl (cJ, 4, .inr (.inl f)))] s.heap.size = A at hD ⊢
  have hA : ∀ q : Nat, s.heap.size ≤ q → A q := fun q h => by rw [← hAe]; exact Or.inr h
  have hS : va_S A s.heap s.heap [] := va_S.rf
  have hP : va_P D vwCl [(h0, rcC n0 rv w0 h1), (h1, mkC h2), (h2, .inl (cJ, 4, .inr (.inl f)))] s.heap := hP
  have hl := lv_entry ([.ref h0, .int n1]) (n := 4) (Nat.le_of_ble_eq_true rfl)
  rw [lg_entry_eq]
  generalize (lg_sl ([.ref h0, .int n1]) ++ List.replicate (4 - (lg_sl ([.ref h0, .int n1])).length) Slot.unset).toArray = ls at hl ⊢
  have hl : lv_has ls 4 [(0, .ref h0), (1, .int n1)] := hl
  obtain ⟨QP, hQP⟩ : ∃ y : State → Prop, y = (MQ below (va_Qi (fun (r : Int32) (_ : Unit) => ((True) ∧ r = (xc_leastKept n0 w0 rv f n1).2.2)) (fun (_ : Unit) (t : State) => ∃ (rv2 : Nat → Int32) (f2 : Nat → Int64), (rv2 = (xc_leastKept n0 w0 rv f n1).1 ∧ f2 = (xc_leastKept n0 w0 rv f n1).2.1) ∧ pw_t D cI cJ cZ cO A [(h0, rcC n0 rv2 w0 h1), (h1, mkC h2), (h2, .inl (cJ, 4, .inr (.inl f2)))] t) A) #[(.ref h0 : Value), (.int n1 : Value)] s 0 0 A) := ⟨_, rfl⟩
  obtain ⟨RES, hRES⟩ : ∃ y, y = (xc_leastKept n0 w0 rv f n1) := ⟨_, rfl⟩
  have L_7 : ∀ (n_7 : Nat), ∀ (rv : Nat → Int32) (f : Nat → Int64) (H : Heap) (locs : List Loc), va_P D vwCl [(h0, rcC n0 rv w0 h1), (h1, mkC h2), (h2, .inl (cJ, 4, .inr (.inl f)))] H → va_D A [(h0, rcC n0 rv w0 h1), (h1, mkC h2), (h2, .inl (cJ, 4, .inr (.inl f)))] → va_S A s.heap H locs → ∀ (i1 : Int32) (i2 : Int32) (i3 : Int32) (ls : Array Slot), lv_has ls 4 [(0, .ref h0), (1, .int i1), (2, .int i2), (3, .int i3)] → RES = xc_leastKept_7 n0 w0 n1 n_7 rv f i1 i2 i3 →  ((rv 2 + 200).toInt - i3.toInt).toNat < n_7 → W p l e ({ frames := 1, cells := 0, slots := 0, locals := 21 }) s m #[(.ref h0 : Value), (.int n1 : Value)] below meth c H locs 0 0 QP (F0 m 7 ls []) := by
    intro n_7
    induction n_7 with
    | zero => intro rv f H locs hP hD hS i1 i2 i3 ls hl hE hm; exact absurd hm (Nat.not_lt_zero _)
    | succ n_7 ih_7 =>
      have J_43 : ∀ (rv : Nat → Int32) (f : Nat → Int64) (H : Heap) (locs : List Loc), va_P D vwCl [(h0, rcC n0 rv w0 h1), (h1, mkC h2), (h2, .inl (cJ, 4, .inr (.inl f)))] H → va_D A [(h0, rcC n0 rv w0 h1), (h1, mkC h2), (h2, .inl (cJ, 4, .inr (.inl f)))] → va_S A s.heap H locs → ∀ (i1 : Int32) (i2 : Int32) (i3 : Int32) (ls : Array Slot), lv_has ls 4 [(0, .ref h0), (1, .int i1), (2, .int i2), (3, .int i3)] → RES = xc_leastKept_43 n0 w0 n1 (xc_leastKept_7 n0 w0 n1 n_7) rv f i1 i2 i3 → ((rv 2 + 200).toInt - (i3 + 1).toInt).toNat < n_7 → W p l e ({ frames := 1, cells := 0, slots := 0, locals := 21 }) s m #[(.ref h0 : Value), (.int n1 : Value)] below meth c H locs 0 0 QP (F0 m 43 ls []) := by
        intro rv f H locs hP hD hS i1 i2 i3 ls hl hE hq_7
        unfold xc_leastKept_43 at hE
        obtain ⟨x_12, ex_12⟩ : ∃ y : Int32, y = i3 + 1 := ⟨_, rfl⟩
        have hE := bd_at ex_12 hE
        refine lv_iinc (v := x_12) (lv' := [(3, .int x_12), (0, .ref h0), (1, .int i1), (2, .int i2)]) hx hb dX6_leastKept_43 hl (k := 3) rfl (by rw [ex_12]; rfl) (by decide) rfl (fun ls hl => ?_)
        refine lv_goto (tgt := 7) hx hb dX6_leastKept_46 (by decide) ?_
        exact ih_7 rv f _ _ hP hD hS i1 i2 x_12 _ (lv_sub hl [1, 2, 3, 0] rfl) hE (by rw [ex_12]; exact hq_7)
      intro rv f H locs hP hD hS i1 i2 i3 ls hl hE hm_7
      rw [xc_leastKept_7] at hE
      refine lv_iload_n hx hb dX6_leastKept_7 rfl (lv_at hl 2 rfl) ?_
      refine lv_if_lt (tgt := 49) hx hb dX6_leastKept_8 (by decide) (fun c_13 => ?_) (fun c_13 => ?_)
      · have hE := hE.trans (if_pos c_13)
        refine lv_iconst (v := (-1)) hx hb dX6_leastKept_49 (by decide) ?_
        rw [hQP]
        have hP9 := hP.sub (ws' := [(h0, rcC n0 rv w0 h1), (h1, mkC h2), (h2, .inl (cJ, 4, .inr (.inl f)))]) [0, 1, 2] rfl
        have hD9 := hD.sub (ws' := [(h0, rcC n0 rv w0 h1), (h1, mkC h2), (h2, .inl (cJ, 4, .inr (.inl f)))]) [0, 1, 2] (by decide) rfl
        exact W.iret (v := (-1)) hx hb hr (fun t ht hW => ⟨⟨(-1), (), rfl, ⟨(by decide), (by rw [← hRES, hE])⟩, ⟨rv, f, ⟨(by rw [← hRES, hE]), (by rw [← hRES, hE])⟩, by rw [ht]; exact hP9, va_K.moved hW.alike hK, hD9⟩⟩, hS.F ht⟩) hS.2.2 dX6_leastKept_50
      · have hE := hE.trans (if_neg c_13)
        refine lv_iload_n hx hb dX6_leastKept_11 rfl (lv_at hl 3 rfl) ?_
        refine lv_aload_n hx hb dX6_leastKept_12 rfl (lv_at hl 0 rfl) ?_
        refine va_get (D := D) (ci := 6) (v := .int (rv 2)) (C := RX6) (T := TX6) (N := 11) hx hb ha inlX6 hown hK hP 0 rfl rfl 2 (by decide) (ha _ kf_X6_38) (fun _ h9 => h9) rfl dX6_leastKept_13 ?_
        refine lv_topi (fun x_14 ex_14 => ?_)
        have hE := bd_at ex_14 hE
        refine lv_sipush (v := 200) hx hb dX6_leastKept_16 (by decide) ?_
        refine lv_iadd hx hb dX6_leastKept_19 ?_
        refine lv_topi (fun x_15 ex_15 => ?_)
        have hE := bd_at ex_15 hE
        refine lv_icmp_ge (tgt := 49) hx hb dX6_leastKept_20 (by decide) (fun c_16 => ?_) (fun c_16 => ?_)
        · have hE := hE.trans (if_pos c_16)
          refine lv_iconst (v := (-1)) hx hb dX6_leastKept_49 (by decide) ?_
          rw [hQP]
          have hP9 := hP.sub (ws' := [(h0, rcC n0 rv w0 h1), (h1, mkC h2), (h2, .inl (cJ, 4, .inr (.inl f)))]) [0, 1, 2] rfl
          have hD9 := hD.sub (ws' := [(h0, rcC n0 rv w0 h1), (h1, mkC h2), (h2, .inl (cJ, 4, .inr (.inl f)))]) [0, 1, 2] (by decide) rfl
          exact W.iret (v := (-1)) hx hb hr (fun t ht hW => ⟨⟨(-1), (), rfl, ⟨(by decide), (by rw [← hRES, hE])⟩, ⟨rv, f, ⟨(by rw [← hRES, hE]), (by rw [← hRES, hE])⟩, by rw [ht]; exact hP9, va_K.moved hW.alike hK, hD9⟩⟩, hS.F ht⟩) hS.2.2 dX6_leastKept_50
        · have hE := hE.trans (if_neg c_16)
          refine lv_aload_n hx hb dX6_leastKept_23 rfl (lv_at hl 0 rfl) ?_
          refine va_get (D := D) (ci := 6) (v := .ref h1) (C := RX6) (T := TX6) (N := 11) hx hb ha inlX6 hown hK hP 0 rfl rfl 4 (by decide) (ha _ kf_X6_18) (fun _ h9 => h9) rfl dX6_leastKept_24 ?_
          refine lv_iload_n hx hb dX6_leastKept_27 rfl (lv_at hl 3 rfl) ?_
          have hPc := hP.sub (ws' := [(h1, mkC h2), (h2, .inl (cJ, 4, .inr (.inl f)))]) [1, 2] rfl
          have hDc := hD.sub (ws' := [(h1, mkC h2), (h2, .inl (cJ, 4, .inr (.inl f)))]) [1, 2] (by decide) rfl
          have hFc := va_free (wc := [(h1, mkC h2), (h2, .inl (cJ, 4, .inr (.inl f)))]) hD hS hA [1, 2] rfl
          refine va_calli (va_runV (As := [.int i3]) (rest := []) ⟨hx, hb, hml, hown, ha⟩ (s_has l D cI cJ cZ cO _ h1 h2 f i3) (cwV 1 ha (gaV kl_X6_50 km_X4_has ks_X4_has kz_X4 kd_X4_has) rfl rfl rfl (by decide +kernel) ⟨Nat.le_of_ble_eq_true rfl, Nat.le_of_ble_eq_true rfl⟩) ⟨pw_blind, va_recv hK hPc (ci := 4) (q0 := 0) rfl rfl, fun U hU hW => ⟨rfl, pw_start hU hW hPc hK hDc hN⟩⟩ rfl rfl hl.1 rfl (lv_room (Nat.le_of_ble_eq_true rfl)) dX6_leastKept_28 ⟨Nat.le_of_ble_eq_true rfl, Nat.le_of_ble_eq_true rfl⟩) hS (fun q _ h => hFc q h) hFc (fun r_17 u t H1 locs ht hvm hw hB hz1 hk1 hS => ?_)
          obtain ⟨f, hX0, hP1, hK1, hD1⟩ := hB
          have hE := bd_at rfl hE
          have hE := bd_at hX0 hE
          have hE := bd_at hw.2 hE
          rw [ht] at hP1
          obtain ⟨hP, hD⟩ := va_join (wr := [(h0, rcC n0 rv w0 h1)]) (w1 := [(h1, mkC h2), (h2, .inl (cJ, 4, .inr (.inl f)))]) hP hD [1, 2] [0] rfl rfl (by decide) (by decide) hk1 hFc hP1 hD1
          generalize H1 = H at hP hS ⊢
          have hP : va_P D vwCl [(h0, rcC n0 rv w0 h1), (h1, mkC h2), (h2, .inl (cJ, 4, .inr (.inl f)))] H := hP
          have hD : va_D A [(h0, rcC n0 rv w0 h1), (h1, mkC h2), (h2, .inl (cJ, 4, .inr (.inl f)))] := hD
          refine W.widen (k := 0) (n := 0) (Nat.le_of_ble_eq_true rfl) (Nat.le_of_ble_eq_true rfl) ?_
          have hr_17 := hw.1
          refine lv_if_eq (tgt := 43) hx hb dX6_leastKept_31 (by decide) (fun c_19 => ?_) (fun c_19 => ?_)
          · have hE := hE.trans (if_pos c_19)
            exact J_43 rv f _ _ hP hD hS i1 i2 i3 _ (lv_sub hl [0, 1, 2, 3] rfl) hE (Nat.lt_of_lt_of_le (sw_up (b := rv 2 + 200) (by rw [← ex_14, ← ex_15]; exact c_16) rfl) (Nat.le_of_lt_succ hm_7))
          · have hE := hE.trans (if_neg c_19)
            refine lv_iload_n hx hb dX6_leastKept_34 rfl (lv_at hl 2 rfl) ?_
            refine lv_if_ne (tgt := 40) hx hb dX6_leastKept_35 (by decide) (fun c_20 => ?_) (fun c_20 => ?_)
            · have hE := hE.trans (if_neg c_20)
              obtain ⟨x_21, ex_21⟩ : ∃ y : Int32, y = i2 + (-1) := ⟨_, rfl⟩
              have hE := bd_at ex_21 hE
              refine lv_iinc (v := x_21) (lv' := [(2, .int x_21), (0, .ref h0), (1, .int i1), (3, .int i3)]) hx hb dX6_leastKept_40 hl (k := 2) rfl (by rw [ex_21]; rfl) (by decide) rfl (fun ls hl => ?_)
              exact J_43 rv f _ _ hP hD hS i1 x_21 i3 _ (lv_sub hl [1, 2, 0, 3] rfl) hE (Nat.lt_of_lt_of_le (sw_up (b := rv 2 + 200) (by rw [← ex_14, ← ex_15]; exact c_16) rfl) (Nat.le_of_lt_succ hm_7))
            · have hE := hE.trans (if_pos c_20)
              refine lv_iload_n hx hb dX6_leastKept_38 rfl (lv_at hl 3 rfl) ?_
              rw [hQP]
              have hP9 := hP.sub (ws' := [(h0, rcC n0 rv w0 h1), (h1, mkC h2), (h2, .inl (cJ, 4, .inr (.inl f)))]) [0, 1, 2] rfl
              have hD9 := hD.sub (ws' := [(h0, rcC n0 rv w0 h1), (h1, mkC h2), (h2, .inl (cJ, 4, .inr (.inl f)))]) [0, 1, 2] (by decide) rfl
              exact W.iret (v := i3) hx hb hr (fun t ht hW => ⟨⟨i3, (), rfl, ⟨(by decide), (by rw [← hRES, hE])⟩, ⟨rv, f, ⟨(by rw [← hRES, hE]), (by rw [← hRES, hE])⟩, by rw [ht]; exact hP9, va_K.moved hW.alike hK, hD9⟩⟩, hS.F ht⟩) hS.2.2 dX6_leastKept_39
  rw [hQP] at L_7
  -- from the entry
  have hE := hRES
  unfold xc_leastKept at hE
  refine lv_iload_n hx hb dX6_leastKept_0 rfl (lv_at hl 1 rfl) ?_
  refine lv_istore_n (lv' := [(2, .int n1), (0, .ref h0), (1, .int n1)]) hx hb dX6_leastKept_1 rfl hl (by decide) rfl (fun ls hl => ?_)
  refine lv_aload_n hx hb dX6_leastKept_2 rfl (lv_at hl 1 rfl) ?_
  refine va_get (D := D) (ci := 6) (v := .int (rv 2)) (C := RX6) (T := TX6) (N := 11) hx hb ha inlX6 hown hK hP 0 rfl rfl 2 (by decide) (ha _ kf_X6_38) (fun _ h9 => h9) rfl dX6_leastKept_3 ?_
  refine lv_topi (fun x_22 ex_22 => ?_)
  have hE := bd_at ex_22 hE
  refine lv_istore_n (lv' := [(3, .int x_22), (2, .int n1), (0, .ref h0), (1, .int n1)]) hx hb dX6_leastKept_6 rfl hl (by decide) rfl (fun ls hl => ?_)
  exact L_7 (((rv 2 + 200).toInt - x_22.toInt).toNat + 1) rv f _ _ hP hD hS n1 n1 x_22 _ (lv_sub hl [2, 3, 1, 0] rfl) hE (Nat.lt_succ_self _)

set_option maxRecDepth 100000 in
def xc_rgoOn_10 (n0 : Int32) (w0 : Int32) : Nat → (Nat → Int32) → (Nat → Int64) → (Nat → Int32) × (Nat → Int64)
  | 0, rv, f => (rv, f)
  | fu + 1, rv, f => bd (rv 5) (fun v1 => (if v1 ≤ (0 : Int32) then (rv, f) else bd (rv 2) (fun v2 => bd (xc_has f v2) (fun t3 => bd (t3.1) (fun f => bd (t3.2) (fun v4 => (if v4 = (0 : Int32) then (rv, f) else bd (rv 2) (fun v5 => bd (xc_drop f v5) (fun t6 => bd (t6) (fun f => bd (rv 2) (fun v7 => bd (v7 + (1 : Int32)) (fun v8 => bd (upd rv 2 v8) (fun rv => bd (rv 5) (fun v9 => bd (v9 - (1 : Int32)) (fun v10 => bd (upd rv 5 v10) (fun rv => xc_rgoOn_10 n0 w0 fu rv f))))))))))))))))
set_option maxRecDepth 100000 in
def xc_rgoOn (n0 : Int32) (w0 : Int32) (rv : Nat → Int32) (f : Nat → Int64) : (Nat → Int32) × (Nat → Int64) := bd (rv 2) (fun v11 => bd (v11 + (1 : Int32)) (fun v12 => bd (upd rv 2 v12) (fun rv => xc_rgoOn_10 n0 w0 ((rv 5).toInt.toNat + 1) rv f)))
set_option maxHeartbeats 4000000 in
set_option maxRecDepth 100000 in
theorem s_rgoOn (l : Launch) (D : va_G) (cI cJ cZ cO : ClassId) (sz : Nat) (h0 h1 h2 : Nat) (n0 w0 : Int32) (rv : Nat → Int32) (f : Nat → Int64) : Met l yX6_goOn (wa yX6_goOn cX6_goOn 1 none) ({ frames := 1, cells := 0, slots := 0, locals := 21 }) (va_Pc [.ref h0] (pw_s D cI cJ cZ cO sz [(h0, rcC n0 rv w0 h1), (h1, mkC h2), (h2, .inl (cJ, 4, .inr (.inl f)))])) (va_Qv (fun (_ : Unit) => True) (fun (_ : Unit) (t : State) => ∃ (rv2 : Nat → Int32) (f2 : Nat → Int64), (rv2 = (xc_rgoOn n0 w0 rv f).1 ∧ f2 = (xc_rgoOn n0 w0 rv f).2) ∧ pw_t D cI cJ cZ cO (va_A [(h0, rcC n0 rv w0 h1), (h1, mkC h2), (h2, .inl (cJ, 4, .inr (.inl f)))] sz) [(h0, rcC n0 rv2 w0 h1), (h1, mkC h2), (h2, .inl (cJ, 4, .inr (.inl f2)))] t) (va_A [(h0, rcC n0 rv w0 h1), (h1, mkC h2), (h2, .inl (cJ, 4, .inr (.inl f)))] sz)) 0 0 (va_A [(h0, rcC n0 rv w0 h1), (h1, mkC h2), (h2, .inl (cJ, 4, .inr (.inl f)))] sz) := by
  refine Met.ofW (cc := cX6_goOn) (maxL := 1) (ret := none) (by decide) rfl ?_
  intro p e s m args below meth c s₁ B hml hv
  obtain ⟨rfl, hsz, hP, hK, hD0, hN⟩ := hv
  have hx := B.exec
  have hb := B.bytes
  have hr := B.returns
  have hts := atoms_spec (ws := (wa yX6_goOn cX6_goOn 1 none)) B.pre
  have ha : ∀ w ∈ wsL_law, w.before _ s = true := fun w h => hts w (List.mem_cons_of_mem _ h)
  have hown : s.vm.findClass RX6 = some m.cls := findClass_of_methodNamed B.named
  have hlocks := B.notSynchronized
  subst hsz
  have hD := hD0.self (sz := s.heap.size)
  generalize hAe : va_A [(h0, rcC n0 rv w0 h1), (h1, mkC h2), (h2, .inl (cJ, 4, .inr (.inl f)))] s.heap.size = A at hD ⊢
  have hA : ∀ q : Nat, s.heap.size ≤ q → A q := fun q h => by rw [← hAe]; exact Or.inr h
  have hS : va_S A s.heap s.heap [] := va_S.rf
  have hP : va_P D vwCl [(h0, rcC n0 rv w0 h1), (h1, mkC h2), (h2, .inl (cJ, 4, .inr (.inl f)))] s.heap := hP
  have hl := lv_entry ([.ref h0]) (n := 1) (Nat.le_of_ble_eq_true rfl)
  rw [lg_entry_eq]
  generalize (lg_sl ([.ref h0]) ++ List.replicate (1 - (lg_sl ([.ref h0])).length) Slot.unset).toArray = ls at hl ⊢
  have hl : lv_has ls 1 [(0, .ref h0)] := hl
  obtain ⟨QP, hQP⟩ : ∃ y : State → Prop, y = (MQ below (va_Qv (fun (_ : Unit) => True) (fun (_ : Unit) (t : State) => ∃ (rv2 : Nat → Int32) (f2 : Nat → Int64), (rv2 = (xc_rgoOn n0 w0 rv f).1 ∧ f2 = (xc_rgoOn n0 w0 rv f).2) ∧ pw_t D cI cJ cZ cO A [(h0, rcC n0 rv2 w0 h1), (h1, mkC h2), (h2, .inl (cJ, 4, .inr (.inl f2)))] t) A) #[(.ref h0 : Value)] s 0 0 A) := ⟨_, rfl⟩
  obtain ⟨RES, hRES⟩ : ∃ y, y = (xc_rgoOn n0 w0 rv f) := ⟨_, rfl⟩
  have L_10 : ∀ (n_10 : Nat), ∀ (rv : Nat → Int32) (f : Nat → Int64) (H : Heap) (locs : List Loc), va_P D vwCl [(h0, rcC n0 rv w0 h1), (h1, mkC h2), (h2, .inl (cJ, 4, .inr (.inl f)))] H → va_D A [(h0, rcC n0 rv w0 h1), (h1, mkC h2), (h2, .inl (cJ, 4, .inr (.inl f)))] → va_S A s.heap H locs → ∀ (ls : Array Slot), lv_has ls 1 [(0, .ref h0)] → RES = xc_rgoOn_10 n0 w0 n_10 rv f →  (rv 5).toInt.toNat < n_10 → W p l e ({ frames := 1, cells := 0, slots := 0, locals := 21 }) s m #[(.ref h0 : Value)] below meth c H locs 0 0 QP (F0 m 10 ls []) := by
    intro n_10
    induction n_10 with
    | zero => intro rv f H locs hP hD hS  ls hl hE hm; exact absurd hm (Nat.not_lt_zero _)
    | succ n_10 ih_10 =>
      intro rv f H locs hP hD hS  ls hl hE hm_10
      rw [xc_rgoOn_10] at hE
      refine lv_aload_n hx hb dX6_goOn_10 rfl (lv_at hl 0 rfl) ?_
      refine va_get (D := D) (ci := 6) (v := .int (rv 5)) (C := RX6) (T := TX6) (N := 11) hx hb ha inlX6 hown hK hP 0 rfl rfl 5 (by decide) (ha _ kf_X6_41) (fun _ h9 => h9) rfl dX6_goOn_11 ?_
      refine lv_topi (fun x_19 ex_19 => ?_)
      have hE := bd_at ex_19 hE
      refine lv_if_le (tgt := 65) hx hb dX6_goOn_14 (by decide) (fun c_20 => ?_) (fun c_20 => ?_)
      · have hE := hE.trans (if_pos c_20)
        rw [hQP]
        have hP9 := hP.sub (ws' := [(h0, rcC n0 rv w0 h1), (h1, mkC h2), (h2, .inl (cJ, 4, .inr (.inl f)))]) [0, 1, 2] rfl
        have hD9 := hD.sub (ws' := [(h0, rcC n0 rv w0 h1), (h1, mkC h2), (h2, .inl (cJ, 4, .inr (.inl f)))]) [0, 1, 2] (by decide) rfl
        exact W.vret hx hb hr (fun t ht hW => ⟨⟨(), rfl, trivial, ⟨rv, f, ⟨(by rw [← hRES, hE]), (by rw [← hRES, hE])⟩, by rw [ht]; exact hP9, va_K.moved hW.alike hK, hD9⟩⟩, hS.F ht⟩) hS.2.2 dX6_goOn_65
      · have hE := hE.trans (if_neg c_20)
        refine lv_aload_n hx hb dX6_goOn_17 rfl (lv_at hl 0 rfl) ?_
        refine va_get (D := D) (ci := 6) (v := .ref h1) (C := RX6) (T := TX6) (N := 11) hx hb ha inlX6 hown hK hP 0 rfl rfl 4 (by decide) (ha _ kf_X6_18) (fun _ h9 => h9) rfl dX6_goOn_18 ?_
        refine lv_aload_n hx hb dX6_goOn_21 rfl (lv_at hl 0 rfl) ?_
        refine va_get (D := D) (ci := 6) (v := .int (rv 2)) (C := RX6) (T := TX6) (N := 11) hx hb ha inlX6 hown hK hP 0 rfl rfl 2 (by decide) (ha _ kf_X6_38) (fun _ h9 => h9) rfl dX6_goOn_22 ?_
        refine lv_topi (fun x_21 ex_21 => ?_)
        have hE := bd_at ex_21 hE
        have hPc := hP.sub (ws' := [(h1, mkC h2), (h2, .inl (cJ, 4, .inr (.inl f)))]) [1, 2] rfl
        have hDc := hD.sub (ws' := [(h1, mkC h2), (h2, .inl (cJ, 4, .inr (.inl f)))]) [1, 2] (by decide) rfl
        have hFc := va_free (wc := [(h1, mkC h2), (h2, .inl (cJ, 4, .inr (.inl f)))]) hD hS hA [1, 2] rfl
        refine va_calli (va_runV (As := [.int x_21]) (rest := []) ⟨hx, hb, hml, hown, ha⟩ (s_has l D cI cJ cZ cO _ h1 h2 f x_21) (cwV 1 ha (gaV kl_X6_50 km_X4_has ks_X4_has kz_X4 kd_X4_has) rfl rfl rfl (by decide +kernel) ⟨Nat.le_of_ble_eq_true rfl, Nat.le_of_ble_eq_true rfl⟩) ⟨pw_blind, va_recv hK hPc (ci := 4) (q0 := 0) rfl rfl, fun U hU hW => ⟨rfl, pw_start hU hW hPc hK hDc hN⟩⟩ rfl rfl hl.1 rfl (lv_room (Nat.le_of_ble_eq_true rfl)) dX6_goOn_25 ⟨Nat.le_of_ble_eq_true rfl, Nat.le_of_ble_eq_true rfl⟩) hS (fun q _ h => hFc q h) hFc (fun r_22 u t H1 locs ht hvm hw hB hz1 hk1 hS => ?_)
        obtain ⟨f, hX0, hP1, hK1, hD1⟩ := hB
        have hE := bd_at rfl hE
        have hE := bd_at hX0 hE
        have hE := bd_at hw.2 hE
        rw [ht] at hP1
        obtain ⟨hP, hD⟩ := va_join (wr := [(h0, rcC n0 rv w0 h1)]) (w1 := [(h1, mkC h2), (h2, .inl (cJ, 4, .inr (.inl f)))]) hP hD [1, 2] [0] rfl rfl (by decide) (by decide) hk1 hFc hP1 hD1
        generalize H1 = H at hP hS ⊢
        have hP : va_P D vwCl [(h0, rcC n0 rv w0 h1), (h1, mkC h2), (h2, .inl (cJ, 4, .inr (.inl f)))] H := hP
        have hD : va_D A [(h0, rcC n0 rv w0 h1), (h1, mkC h2), (h2, .inl (cJ, 4, .inr (.inl f)))] := hD
        refine W.widen (k := 0) (n := 0) (Nat.le_of_ble_eq_true rfl) (Nat.le_of_ble_eq_true rfl) ?_
        have hr_22 := hw.1
        refine lv_if_eq (tgt := 65) hx hb dX6_goOn_28 (by decide) (fun c_24 => ?_) (fun c_24 => ?_)
        · have hE := hE.trans (if_pos c_24)
          rw [hQP]
          have hP9 := hP.sub (ws' := [(h0, rcC n0 rv w0 h1), (h1, mkC h2), (h2, .inl (cJ, 4, .inr (.inl f)))]) [0, 1, 2] rfl
          have hD9 := hD.sub (ws' := [(h0, rcC n0 rv w0 h1), (h1, mkC h2), (h2, .inl (cJ, 4, .inr (.inl f)))]) [0, 1, 2] (by decide) rfl
          exact W.vret hx hb hr (fun t ht hW => ⟨⟨(), rfl, trivial, ⟨rv, f, ⟨(by rw [← hRES, hE]), (by rw [← hRES, hE])⟩, by rw [ht]; exact hP9, va_K.moved hW.alike hK, hD9⟩⟩, hS.F ht⟩) hS.2.2 dX6_goOn_65
        · have hE := hE.trans (if_neg c_24)
          refine lv_aload_n hx hb dX6_goOn_31 rfl (lv_at hl 0 rfl) ?_
          refine va_get (D := D) (ci := 6) (v := .ref h1) (C := RX6) (T := TX6) (N := 11) hx hb ha inlX6 hown hK hP 0 rfl rfl 4 (by decide) (ha _ kf_X6_18) (fun _ h9 => h9) rfl dX6_goOn_32 ?_
          refine lv_aload_n hx hb dX6_goOn_35 rfl (lv_at hl 0 rfl) ?_
          refine va_get (D := D) (ci := 6) (v := .int (rv 2)) (C := RX6) (T := TX6) (N := 11) hx hb ha inlX6 hown hK hP 0 rfl rfl 2 (by decide) (ha _ kf_X6_38) (fun _ h9 => h9) rfl dX6_goOn_36 ?_
          refine lv_topi (fun x_25 ex_25 => ?_)
          have hE := bd_at ex_25 hE
          have hPc := hP.sub (ws' := [(h1, mkC h2), (h2, .inl (cJ, 4, .inr (.inl f)))]) [1, 2] rfl
          have hDc := hD.sub (ws' := [(h1, mkC h2), (h2, .inl (cJ, 4, .inr (.inl f)))]) [1, 2] (by decide) rfl
          have hFc := va_free (wc := [(h1, mkC h2), (h2, .inl (cJ, 4, .inr (.inl f)))]) hD hS hA [1, 2] rfl
          refine va_callv (va_runV (As := [.int x_25]) (rest := []) ⟨hx, hb, hml, hown, ha⟩ (s_drop l D cI cJ cZ cO _ h1 h2 f x_25) (cwV 1 ha (gaV kl_X6_71 km_X4_drop ks_X4_drop kz_X4 kd_X4_drop) rfl rfl rfl (by decide +kernel) ⟨Nat.le_of_ble_eq_true rfl, Nat.le_of_ble_eq_true rfl⟩) ⟨pw_blind, va_recv hK hPc (ci := 4) (q0 := 0) rfl rfl, fun U hU hW => ⟨rfl, pw_start hU hW hPc hK hDc hN⟩⟩ rfl rfl hl.1 rfl (lv_room (Nat.le_of_ble_eq_true rfl)) dX6_goOn_39 ⟨Nat.le_of_ble_eq_true rfl, Nat.le_of_ble_eq_true rfl⟩) hS (fun q _ h => hFc q h) hFc (fun u t H1 locs ht hvm hw hB hz1 hk1 hS => ?_)
          obtain ⟨f, hX0, hP1, hK1, hD1⟩ := hB
          have hE := bd_at rfl hE
          have hE := bd_at hX0 hE
          rw [ht] at hP1
          obtain ⟨hP, hD⟩ := va_join (wr := [(h0, rcC n0 rv w0 h1)]) (w1 := [(h1, mkC h2), (h2, .inl (cJ, 4, .inr (.inl f)))]) hP hD [1, 2] [0] rfl rfl (by decide) (by decide) hk1 hFc hP1 hD1
          generalize H1 = H at hP hS ⊢
          have hP : va_P D vwCl [(h0, rcC n0 rv w0 h1), (h1, mkC h2), (h2, .inl (cJ, 4, .inr (.inl f)))] H := hP
          have hD : va_D A [(h0, rcC n0 rv w0 h1), (h1, mkC h2), (h2, .inl (cJ, 4, .inr (.inl f)))] := hD
          refine W.widen (k := 0) (n := 0) (Nat.le_of_ble_eq_true rfl) (Nat.le_of_ble_eq_true rfl) ?_
          refine lv_aload_n hx hb dX6_goOn_42 rfl (lv_at hl 0 rfl) ?_
          refine lv_dup hx hb dX6_goOn_43 rfl ?_
          refine va_get (D := D) (ci := 6) (v := .int (rv 2)) (C := RX6) (T := TX6) (N := 11) hx hb ha inlX6 hown hK hP 0 rfl rfl 2 (by decide) (ha _ kf_X6_38) (fun _ h9 => h9) rfl dX6_goOn_44 ?_
          refine lv_topi (fun x_28 ex_28 => ?_)
          have hE := bd_at ex_28 hE
          refine lv_iconst (v := 1) hx hb dX6_goOn_47 (by decide) ?_
          refine lv_iadd hx hb dX6_goOn_48 ?_
          refine lv_topi (fun x_29 ex_29 => ?_)
          have hE := bd_at ex_29 hE
          refine va_put (D := D) (ci := 6) (v := .int x_29) (ty := .int) (C := RX6) (T := TX6) (N := 11) hx hb ha inlX6 tyX6 tyX6_ok nmX6 hown hK hP hD hS 0 rfl rfl 2 (by decide) (ha _ kf_X6_38) (fun _ h9 => h9) rfl (by decide +kernel) rfl rfl (Nat.le_of_ble_eq_true rfl) dX6_goOn_49 (fun H locs hP hD hS => ?_)
          have hP : va_P D vwCl [(h0, rcC n0 (upd rv 2 x_29) w0 h1), (h1, mkC h2), (h2, .inl (cJ, 4, .inr (.inl f)))] H := hP
          have hD : va_D A [(h0, rcC n0 (upd rv 2 x_29) w0 h1), (h1, mkC h2), (h2, .inl (cJ, 4, .inr (.inl f)))] := hD
          generalize hg_30 : upd rv 2 x_29 = rv at hP hD
          have hE := bs_at hg_30 hE
          refine lv_aload_n hx hb dX6_goOn_52 rfl (lv_at hl 0 rfl) ?_
          refine lv_dup hx hb dX6_goOn_53 rfl ?_
          refine va_get (D := D) (ci := 6) (v := .int (rv 5)) (C := RX6) (T := TX6) (N := 11) hx hb ha inlX6 hown hK hP 0 rfl rfl 5 (by decide) (ha _ kf_X6_41) (fun _ h9 => h9) rfl dX6_goOn_54 ?_
          refine lv_topi (fun x_31 ex_31 => ?_)
          have hE := bd_at ex_31 hE
          refine lv_iconst (v := 1) hx hb dX6_goOn_57 (by decide) ?_
          refine lv_isub hx hb dX6_goOn_58 ?_
          refine lv_topi (fun x_32 ex_32 => ?_)
          have hE := bd_at ex_32 hE
          refine va_put (D := D) (ci := 6) (v := .int x_32) (ty := .int) (C := RX6) (T := TX6) (N := 11) hx hb ha inlX6 tyX6 tyX6_ok nmX6 hown hK hP hD hS 0 rfl rfl 5 (by decide) (ha _ kf_X6_41) (fun _ h9 => h9) rfl (by decide +kernel) rfl rfl (Nat.le_of_ble_eq_true rfl) dX6_goOn_59 (fun H locs hP hD hS => ?_)
          have hP : va_P D vwCl [(h0, rcC n0 (upd rv 5 x_32) w0 h1), (h1, mkC h2), (h2, .inl (cJ, 4, .inr (.inl f)))] H := hP
          have hD : va_D A [(h0, rcC n0 (upd rv 5 x_32) w0 h1), (h1, mkC h2), (h2, .inl (cJ, 4, .inr (.inl f)))] := hD
          generalize hg_33 : upd rv 5 x_32 = rv at hP hD
          have hE := bs_at hg_33 hE
          refine lv_goto (tgt := 10) hx hb dX6_goOn_62 (by decide) ?_
          exact ih_10 rv f _ _ hP hD hS  _ (lv_sub hl [0] rfl) hE (Nat.lt_of_lt_of_le (sw_f c_20 ex_19 (congrFun hg_30 5) ex_31 ex_32 (congrFun hg_33 5)) (Nat.le_of_lt_succ hm_10))
  rw [hQP] at L_10
  -- from the entry
  have hE := hRES
  unfold xc_rgoOn at hE
  refine lv_aload_n hx hb dX6_goOn_0 rfl (lv_at hl 0 rfl) ?_
  refine lv_dup hx hb dX6_goOn_1 rfl ?_
  refine va_get (D := D) (ci := 6) (v := .int (rv 2)) (C := RX6) (T := TX6) (N := 11) hx hb ha inlX6 hown hK hP 0 rfl rfl 2 (by decide) (ha _ kf_X6_38) (fun _ h9 => h9) rfl dX6_goOn_2 ?_
  refine lv_topi (fun x_34 ex_34 => ?_)
  have hE := bd_at ex_34 hE
  refine lv_iconst (v := 1) hx hb dX6_goOn_5 (by decide) ?_
  refine lv_iadd hx hb dX6_goOn_6 ?_
  refine lv_topi (fun x_35 ex_35 => ?_)
  have hE := bd_at ex_35 hE
  refine va_put (D := D) (ci := 6) (v := .int x_35) (ty := .int) (C := RX6) (T := TX6) (N := 11) hx hb ha inlX6 tyX6 tyX6_ok nmX6 hown hK hP hD hS 0 rfl rfl 2 (by decide) (ha _ kf_X6_38) (fun _ h9 => h9) rfl (by decide +kernel) rfl rfl (Nat.le_of_ble_eq_true rfl) dX6_goOn_7 (fun H locs hP hD hS => ?_)
  have hP : va_P D vwCl [(h0, rcC n0 (upd rv 2 x_35) w0 h1), (h1, mkC h2), (h2, .inl (cJ, 4, .inr (.inl f)))] H := hP
  have hD : va_D A [(h0, rcC n0 (upd rv 2 x_35) w0 h1), (h1, mkC h2), (h2, .inl (cJ, 4, .inr (.inl f)))] := hD
  generalize hg_36 : upd rv 2 x_35 = rv at hP hD
  have hE := bs_at hg_36 hE
  exact L_10 ((rv 5).toInt.toNat + 1) rv f _ _ hP hD hS  _ (lv_sub hl [0] rfl) hE (Nat.lt_succ_self _)

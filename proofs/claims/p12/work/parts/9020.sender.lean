set_option maxRecDepth 100000 in
def xc_setCwnd (n0 : Int32) (k0 : Int32) (g0 : Int32) (sv : Nat → Int32) (tv : Nat → Int32) (bv : Nat → Int32) (cv : Nat → Int32) (f : Nat → Int64) (g : Nat → Int64) (n1 : Int32) : (Nat → Int32) × (Nat → Int32) × (Nat → Int32) × (Nat → Int32) × (Nat → Int64) × (Nat → Int64) := bd (if n1 < (262144 : Int32) then n1 else (262144 : Int32)) (fun v1 => bd (upd sv 6 v1) (fun sv => bd (sv 7) (fun v2 => bd (sv 6) (fun v3 => bd (if v2 < v3 then v3 else v2) (fun v4 => bd (upd sv 7 v4) (fun sv => (sv, tv, bv, cv, f, g)))))))
set_option maxHeartbeats 4000000 in
set_option maxRecDepth 100000 in
theorem s_setCwnd (l : Launch) (D : va_G) (cI cJ cZ cO : ClassId) (sz : Nat) (h0 h1 h2 h3 h4 h5 h6 h7 : Nat) (n0 k0 g0 : Int32) (sv tv bv cv : Nat → Int32) (f g : Nat → Int64) (n1 : Int32) : Met l yX8_setCwnd (wa yX8_setCwnd cX8_setCwnd 2 none) ({ frames := 1, cells := 0, slots := 0, locals := 40 }) (va_Pc [.ref h0, .int n1] (pw_s D cI cJ cZ cO sz [(h0, snC n0 k0 g0 sv h1 h2 h7), (h1, tmC tv), (h2, boC h3 h5 bv), (h3, mkC h4), (h4, .inl (cJ, 4, .inr (.inl f))), (h5, mkC h6), (h6, .inl (cJ, 4, .inr (.inl g))), (h7, cuC cv)])) (va_Qv (fun (_ : Unit) => True) (fun (_ : Unit) (t : State) => ∃ (sv2 tv2 bv2 cv2 : Nat → Int32) (f2 g2 : Nat → Int64), (sv2 = (xc_setCwnd n0 k0 g0 sv tv bv cv f g n1).1 ∧ tv2 = (xc_setCwnd n0 k0 g0 sv tv bv cv f g n1).2.1 ∧ bv2 = (xc_setCwnd n0 k0 g0 sv tv bv cv f g n1).2.2.1 ∧ cv2 = (xc_setCwnd n0 k0 g0 sv tv bv cv f g n1).2.2.2.1 ∧ f2 = (xc_setCwnd n0 k0 g0 sv tv bv cv f g n1).2.2.2.2.1 ∧ g2 = (xc_setCwnd n0 k0 g0 sv tv bv cv f g n1).2.2.2.2.2) ∧ pw_t D cI cJ cZ cO (va_A [(h0, snC n0 k0 g0 sv h1 h2 h7), (h1, tmC tv), (h2, boC h3 h5 bv), (h3, mkC h4), (h4, .inl (cJ, 4, .inr (.inl f))), (h5, mkC h6), (h6, .inl (cJ, 4, .inr (.inl g))), (h7, cuC cv)] sz) [(h0, snC n0 k0 g0 sv2 h1 h2 h7), (h1, tmC tv2), (h2, boC h3 h5 bv2), (h3, mkC h4), (h4, .inl (cJ, 4, .inr (.inl f2))), (h5, mkC h6), (h6, .inl (cJ, 4, .inr (.inl g2))), (h7, cuC cv2)] t) (va_A [(h0, snC n0 k0 g0 sv h1 h2 h7), (h1, tmC tv), (h2, boC h3 h5 bv), (h3, mkC h4), (h4, .inl (cJ, 4, .inr (.inl f))), (h5, mkC h6), (h6, .inl (cJ, 4, .inr (.inl g))), (h7, cuC cv)] sz)) 0 0 (va_A [(h0, snC n0 k0 g0 sv h1 h2 h7), (h1, tmC tv), (h2, boC h3 h5 bv), (h3, mkC h4), (h4, .inl (cJ, 4, .inr (.inl f))), (h5, mkC h6), (h6, .inl (cJ, 4, .inr (.inl g))), (h7, cuC cv)] sz) := by
  refine Met.ofW (cc := cX8_setCwnd) (maxL := 2) (ret := none) (by decide) rfl ?_
  intro p e s m args below meth c s₁ B hml hv
  obtain ⟨rfl, hsz, hP, hK, hD0, hN⟩ := hv
  have hx := B.exec
  have hb := B.bytes
  have hr := B.returns
  have hts := atoms_spec (ws := (wa yX8_setCwnd cX8_setCwnd 2 none)) B.pre
  have ha : ∀ w ∈ wsL_law, w.before _ s = true := fun w h => hts w (List.mem_cons_of_mem _ h)
  have hown : s.vm.findClass RX8 = some m.cls := findClass_of_methodNamed B.named
  have hlocks := B.notSynchronized
  subst hsz
  have hD := hD0.self (sz := s.heap.size)
  generalize hAe : va_A [(h0, snC n0 k0 g0 sv h1 h2 h7), (h1, tmC tv), (h2, boC h3 h5 bv), (h3, mkC h4), (h4, .inl (cJ, 4, .inr (.inl f))), (h5, mkC h6), (h6, .inl (cJ, 4, .inr (.inl g))), (h7, cuC cv)] s.heap.size = A at hD ⊢
  have hA : ∀ q : Nat, s.heap.size ≤ q → A q := fun q h => by rw [← hAe]; exact Or.inr h
  have hS : va_S A s.heap s.heap [] := va_S.rf
  have hP : va_P D vwCl [(h0, snC n0 k0 g0 sv h1 h2 h7), (h1, tmC tv), (h2, boC h3 h5 bv), (h3, mkC h4), (h4, .inl (cJ, 4, .inr (.inl f))), (h5, mkC h6), (h6, .inl (cJ, 4, .inr (.inl g))), (h7, cuC cv)] s.heap := hP
  have hl := lv_entry ([.ref h0, .int n1]) (n := 2) (Nat.le_of_ble_eq_true rfl)
  rw [lg_entry_eq]
  generalize (lg_sl ([.ref h0, .int n1]) ++ List.replicate (2 - (lg_sl ([.ref h0, .int n1])).length) Slot.unset).toArray = ls at hl ⊢
  have hl : lv_has ls 2 [(0, .ref h0), (1, .int n1)] := hl
  obtain ⟨QP, hQP⟩ : ∃ y : State → Prop, y = (MQ below (va_Qv (fun (_ : Unit) => True) (fun (_ : Unit) (t : State) => ∃ (sv2 tv2 bv2 cv2 : Nat → Int32) (f2 g2 : Nat → Int64), (sv2 = (xc_setCwnd n0 k0 g0 sv tv bv cv f g n1).1 ∧ tv2 = (xc_setCwnd n0 k0 g0 sv tv bv cv f g n1).2.1 ∧ bv2 = (xc_setCwnd n0 k0 g0 sv tv bv cv f g n1).2.2.1 ∧ cv2 = (xc_setCwnd n0 k0 g0 sv tv bv cv f g n1).2.2.2.1 ∧ f2 = (xc_setCwnd n0 k0 g0 sv tv bv cv f g n1).2.2.2.2.1 ∧ g2 = (xc_setCwnd n0 k0 g0 sv tv bv cv f g n1).2.2.2.2.2) ∧ pw_t D cI cJ cZ cO A [(h0, snC n0 k0 g0 sv2 h1 h2 h7), (h1, tmC tv2), (h2, boC h3 h5 bv2), (h3, mkC h4), (h4, .inl (cJ, 4, .inr (.inl f2))), (h5, mkC h6), (h6, .inl (cJ, 4, .inr (.inl g2))), (h7, cuC cv2)] t) A) #[(.ref h0 : Value), (.int n1 : Value)] s 0 0 A) := ⟨_, rfl⟩
  obtain ⟨RES, hRES⟩ : ∃ y, y = (xc_setCwnd n0 k0 g0 sv tv bv cv f g n1) := ⟨_, rfl⟩
  -- from the entry
  have hE := hRES
  unfold xc_setCwnd at hE
  refine lv_aload_n hx hb dX8_setCwnd_0 rfl (lv_at hl 0 rfl) ?_
  refine lv_ldc (v := 262144) hx hb hown (ha _ kk_X8_235) dX8_setCwnd_1 ?_
  refine lv_iload_n hx hb dX8_setCwnd_3 rfl (lv_at hl 1 rfl) ?_
  refine va_mmin hx hb (hml.trans hl.1.symm) hown (ha _ kl_X8_236) (ha _ kt_min) (ha _ kz_J9) (ha _ kd_min) (Nat.le_of_ble_eq_true rfl) (Nat.le_of_ble_eq_true rfl) (Nat.le_of_ble_eq_true rfl) (Nat.le_of_ble_eq_true rfl) dX8_setCwnd_4 ?_
  refine lv_topi (fun x_7 ex_7 => ?_)
  have hE := bd_at ex_7 hE
  refine va_put (D := D) (ci := 8) (v := .int x_7) (ty := .int) (C := RX8) (T := TX8) (N := 20) hx hb ha inlX8 tyX8 tyX8_ok nmX8 hown hK hP hD hS 0 rfl rfl 6 (by decide) (ha _ kf_X8_9) (fun _ h9 => h9) rfl (by decide +kernel) rfl rfl (Nat.le_of_ble_eq_true rfl) dX8_setCwnd_7 (fun H locs hP hD hS => ?_)
  have hP : va_P D vwCl [(h0, snC n0 k0 g0 (upd sv 6 x_7) h1 h2 h7), (h1, tmC tv), (h2, boC h3 h5 bv), (h3, mkC h4), (h4, .inl (cJ, 4, .inr (.inl f))), (h5, mkC h6), (h6, .inl (cJ, 4, .inr (.inl g))), (h7, cuC cv)] H := hP
  have hD : va_D A [(h0, snC n0 k0 g0 (upd sv 6 x_7) h1 h2 h7), (h1, tmC tv), (h2, boC h3 h5 bv), (h3, mkC h4), (h4, .inl (cJ, 4, .inr (.inl f))), (h5, mkC h6), (h6, .inl (cJ, 4, .inr (.inl g))), (h7, cuC cv)] := hD
  generalize hg_8 : upd sv 6 x_7 = sv at hP hD
  have hE := bs_at hg_8 hE
  refine lv_aload_n hx hb dX8_setCwnd_10 rfl (lv_at hl 0 rfl) ?_
  refine lv_aload_n hx hb dX8_setCwnd_11 rfl (lv_at hl 0 rfl) ?_
  refine va_get (D := D) (ci := 8) (v := .int (sv 7)) (C := RX8) (T := TX8) (N := 20) hx hb ha inlX8 hown hK hP 0 rfl rfl 7 (by decide) (ha _ kf_X8_15) (fun _ h9 => h9) rfl dX8_setCwnd_12 ?_
  refine lv_topi (fun x_9 ex_9 => ?_)
  have hE := bd_at ex_9 hE
  refine lv_aload_n hx hb dX8_setCwnd_15 rfl (lv_at hl 0 rfl) ?_
  refine va_get (D := D) (ci := 8) (v := .int (sv 6)) (C := RX8) (T := TX8) (N := 20) hx hb ha inlX8 hown hK hP 0 rfl rfl 6 (by decide) (ha _ kf_X8_9) (fun _ h9 => h9) rfl dX8_setCwnd_16 ?_
  refine lv_topi (fun x_10 ex_10 => ?_)
  have hE := bd_at ex_10 hE
  refine va_mmax hx hb (hml.trans hl.1.symm) hown (ha _ kl_X8_191) (ha _ kt_max) (ha _ kz_J9) (ha _ kd_max) (Nat.le_of_ble_eq_true rfl) (Nat.le_of_ble_eq_true rfl) (Nat.le_of_ble_eq_true rfl) (Nat.le_of_ble_eq_true rfl) dX8_setCwnd_19 ?_
  refine lv_topi (fun x_11 ex_11 => ?_)
  have hE := bd_at ex_11 hE
  refine va_put (D := D) (ci := 8) (v := .int x_11) (ty := .int) (C := RX8) (T := TX8) (N := 20) hx hb ha inlX8 tyX8 tyX8_ok nmX8 hown hK hP hD hS 0 rfl rfl 7 (by decide) (ha _ kf_X8_15) (fun _ h9 => h9) rfl (by decide +kernel) rfl rfl (Nat.le_of_ble_eq_true rfl) dX8_setCwnd_22 (fun H locs hP hD hS => ?_)
  have hP : va_P D vwCl [(h0, snC n0 k0 g0 (upd sv 7 x_11) h1 h2 h7), (h1, tmC tv), (h2, boC h3 h5 bv), (h3, mkC h4), (h4, .inl (cJ, 4, .inr (.inl f))), (h5, mkC h6), (h6, .inl (cJ, 4, .inr (.inl g))), (h7, cuC cv)] H := hP
  have hD : va_D A [(h0, snC n0 k0 g0 (upd sv 7 x_11) h1 h2 h7), (h1, tmC tv), (h2, boC h3 h5 bv), (h3, mkC h4), (h4, .inl (cJ, 4, .inr (.inl f))), (h5, mkC h6), (h6, .inl (cJ, 4, .inr (.inl g))), (h7, cuC cv)] := hD
  generalize hg_12 : upd sv 7 x_11 = sv at hP hD
  have hE := bs_at hg_12 hE
  have hP9 := hP.sub (ws' := [(h0, snC n0 k0 g0 sv h1 h2 h7), (h1, tmC tv), (h2, boC h3 h5 bv), (h3, mkC h4), (h4, .inl (cJ, 4, .inr (.inl f))), (h5, mkC h6), (h6, .inl (cJ, 4, .inr (.inl g))), (h7, cuC cv)]) [0, 1, 2, 3, 4, 5, 6, 7] rfl
  have hD9 := hD.sub (ws' := [(h0, snC n0 k0 g0 sv h1 h2 h7), (h1, tmC tv), (h2, boC h3 h5 bv), (h3, mkC h4), (h4, .inl (cJ, 4, .inr (.inl f))), (h5, mkC h6), (h6, .inl (cJ, 4, .inr (.inl g))), (h7, cuC cv)]) [0, 1, 2, 3, 4, 5, 6, 7] (by decide) rfl
  exact W.vret hx hb hr (fun t ht hW => ⟨⟨(), rfl, trivial, ⟨sv, tv, bv, cv, f, g, ⟨(by rw [← hRES, hE]), (by rw [← hRES, hE]), (by rw [← hRES, hE]), (by rw [← hRES, hE]), (by rw [← hRES, hE]), (by rw [← hRES, hE])⟩, by rw [ht]; exact hP9, va_K.moved hW.alike hK, hD9⟩⟩, hS.F ht⟩) hS.2.2 dX8_setCwnd_25

set_option maxRecDepth 100000 in
def xc_byBoard (n0 : Int32) (k0 : Int32) (g0 : Int32) (sv : Nat → Int32) (tv : Nat → Int32) (bv : Nat → Int32) (cv : Nat → Int32) (f : Nat → Int64) (g : Nat → Int64) : (Nat → Int32) × (Nat → Int32) × (Nat → Int32) × (Nat → Int32) × (Nat → Int64) × (Nat → Int64) × Int32 := bd (sv 11) (fun v1 => (if v1 = (0 : Int32) then (sv, tv, bv, cv, f, g, (0 : Int32)) else (if k0 = (3 : Int32) then (sv, tv, bv, cv, f, g, (1 : Int32)) else (sv, tv, bv, cv, f, g, (0 : Int32)))))
set_option maxHeartbeats 4000000 in
set_option maxRecDepth 100000 in
theorem s_byBoard (l : Launch) (D : va_G) (cI cJ cZ cO : ClassId) (sz : Nat) (h0 h1 h2 h3 h4 h5 h6 h7 : Nat) (n0 k0 g0 : Int32) (sv tv bv cv : Nat → Int32) (f g : Nat → Int64) : Met l yX8_goesByBoard (wa yX8_goesByBoard cX8_goesByBoard 1 (some .boolean)) ({ frames := 0, cells := 0, slots := 0, locals := 0 }) (va_Pc [.ref h0] (pw_s D cI cJ cZ cO sz [(h0, snC n0 k0 g0 sv h1 h2 h7), (h1, tmC tv), (h2, boC h3 h5 bv), (h3, mkC h4), (h4, .inl (cJ, 4, .inr (.inl f))), (h5, mkC h6), (h6, .inl (cJ, 4, .inr (.inl g))), (h7, cuC cv)])) (va_Qi (fun (r : Int32) (_ : Unit) => ((r = 0 ∨ r = 1) ∧ r = (xc_byBoard n0 k0 g0 sv tv bv cv f g).2.2.2.2.2.2)) (fun (_ : Unit) (t : State) => ∃ (sv2 tv2 bv2 cv2 : Nat → Int32) (f2 g2 : Nat → Int64), (sv2 = (xc_byBoard n0 k0 g0 sv tv bv cv f g).1 ∧ tv2 = (xc_byBoard n0 k0 g0 sv tv bv cv f g).2.1 ∧ bv2 = (xc_byBoard n0 k0 g0 sv tv bv cv f g).2.2.1 ∧ cv2 = (xc_byBoard n0 k0 g0 sv tv bv cv f g).2.2.2.1 ∧ f2 = (xc_byBoard n0 k0 g0 sv tv bv cv f g).2.2.2.2.1 ∧ g2 = (xc_byBoard n0 k0 g0 sv tv bv cv f g).2.2.2.2.2.1) ∧ pw_t D cI cJ cZ cO (va_A [(h0, snC n0 k0 g0 sv h1 h2 h7), (h1, tmC tv), (h2, boC h3 h5 bv), (h3, mkC h4), (h4, .inl (cJ, 4, .inr (.inl f))), (h5, mkC h6), (h6, .inl (cJ, 4, .inr (.inl g))), (h7, cuC cv)] sz) [(h0, snC n0 k0 g0 sv2 h1 h2 h7), (h1, tmC tv2), (h2, boC h3 h5 bv2), (h3, mkC h4), (h4, .inl (cJ, 4, .inr (.inl f2))), (h5, mkC h6), (h6, .inl (cJ, 4, .inr (.inl g2))), (h7, cuC cv2)] t) (va_A [(h0, snC n0 k0 g0 sv h1 h2 h7), (h1, tmC tv), (h2, boC h3 h5 bv), (h3, mkC h4), (h4, .inl (cJ, 4, .inr (.inl f))), (h5, mkC h6), (h6, .inl (cJ, 4, .inr (.inl g))), (h7, cuC cv)] sz)) 0 0 (va_A [(h0, snC n0 k0 g0 sv h1 h2 h7), (h1, tmC tv), (h2, boC h3 h5 bv), (h3, mkC h4), (h4, .inl (cJ, 4, .inr (.inl f))), (h5, mkC h6), (h6, .inl (cJ, 4, .inr (.inl g))), (h7, cuC cv)] sz) := by
  refine Met.ofW (cc := cX8_goesByBoard) (maxL := 1) (ret := (some .boolean)) (by decide) rfl ?_
  intro p e s m args below meth c s₁ B hml hv
  obtain ⟨rfl, hsz, hP, hK, hD0, hN⟩ := hv
  have hx := B.exec
  have hb := B.bytes
  have hr := B.returns
  have hts := atoms_spec (ws := (wa yX8_goesByBoard cX8_goesByBoard 1 (some .boolean))) B.pre
  have ha : ∀ w ∈ wsL_law, w.before _ s = true := fun w h => hts w (List.mem_cons_of_mem _ h)
  have hown : s.vm.findClass RX8 = some m.cls := findClass_of_methodNamed B.named
  have hlocks := B.notSynchronized
  subst hsz
  have hD := hD0.self (sz := s.heap.size)
  generalize hAe : va_A [(h0, snC n0 k0 g0 sv h1 h2 h7), (h1, tmC tv), (h2, boC h3 h5 bv), (h3, mkC h4), (h4, .inl (cJ, 4, .inr (.inl f))), (h5, mkC h6), (h6, .inl (cJ, 4, .inr (.inl g))), (h7, cuC cv)] s.heap.size = A at hD ⊢
  have hA : ∀ q : Nat, s.heap.size ≤ q → A q := fun q h => by rw [← hAe]; exact Or.inr h
  have hS : va_S A s.heap s.heap [] := va_S.rf
  have hP : va_P D vwCl [(h0, snC n0 k0 g0 sv h1 h2 h7), (h1, tmC tv), (h2, boC h3 h5 bv), (h3, mkC h4), (h4, .inl (cJ, 4, .inr (.inl f))), (h5, mkC h6), (h6, .inl (cJ, 4, .inr (.inl g))), (h7, cuC cv)] s.heap := hP
  have hl := lv_entry ([.ref h0]) (n := 1) (Nat.le_of_ble_eq_true rfl)
  rw [lg_entry_eq]
  generalize (lg_sl ([.ref h0]) ++ List.replicate (1 - (lg_sl ([.ref h0])).length) Slot.unset).toArray = ls at hl ⊢
  have hl : lv_has ls 1 [(0, .ref h0)] := hl
  obtain ⟨QP, hQP⟩ : ∃ y : State → Prop, y = (MQ below (va_Qi (fun (r : Int32) (_ : Unit) => ((r = 0 ∨ r = 1) ∧ r = (xc_byBoard n0 k0 g0 sv tv bv cv f g).2.2.2.2.2.2)) (fun (_ : Unit) (t : State) => ∃ (sv2 tv2 bv2 cv2 : Nat → Int32) (f2 g2 : Nat → Int64), (sv2 = (xc_byBoard n0 k0 g0 sv tv bv cv f g).1 ∧ tv2 = (xc_byBoard n0 k0 g0 sv tv bv cv f g).2.1 ∧ bv2 = (xc_byBoard n0 k0 g0 sv tv bv cv f g).2.2.1 ∧ cv2 = (xc_byBoard n0 k0 g0 sv tv bv cv f g).2.2.2.1 ∧ f2 = (xc_byBoard n0 k0 g0 sv tv bv cv f g).2.2.2.2.1 ∧ g2 = (xc_byBoard n0 k0 g0 sv tv bv cv f g).2.2.2.2.2.1) ∧ pw_t D cI cJ cZ cO A [(h0, snC n0 k0 g0 sv2 h1 h2 h7), (h1, tmC tv2), (h2, boC h3 h5 bv2), (h3, mkC h4), (h4, .inl (cJ, 4, .inr (.inl f2))), (h5, mkC h6), (h6, .inl (cJ, 4, .inr (.inl g2))), (h7, cuC cv2)] t) A) #[(.ref h0 : Value)] s 0 0 A) := ⟨_, rfl⟩
  obtain ⟨RES, hRES⟩ : ∃ y, y = (xc_byBoard n0 k0 g0 sv tv bv cv f g) := ⟨_, rfl⟩
  -- from the entry
  have hE := hRES
  unfold xc_byBoard at hE
  refine lv_aload_n hx hb dX8_goesByBoard_0 rfl (lv_at hl 0 rfl) ?_
  refine va_get (D := D) (ci := 8) (v := .int (sv 11)) (C := RX8) (T := TX8) (N := 20) hx hb ha inlX8 hown hK hP 0 rfl rfl 11 (by decide) (ha _ kf_X8_86) (fun _ h9 => h9) rfl dX8_goesByBoard_1 ?_
  refine lv_topi (fun x_4 ex_4 => ?_)
  have hE := bd_at ex_4 hE
  refine lv_if_eq (tgt := 19) hx hb dX8_goesByBoard_4 (by decide) (fun c_5 => ?_) (fun c_5 => ?_)
  · have hE := hE.trans (if_pos c_5)
    refine lv_iconst (v := 0) hx hb dX8_goesByBoard_19 (by decide) ?_
    have hP9 := hP.sub (ws' := [(h0, snC n0 k0 g0 sv h1 h2 h7), (h1, tmC tv), (h2, boC h3 h5 bv), (h3, mkC h4), (h4, .inl (cJ, 4, .inr (.inl f))), (h5, mkC h6), (h6, .inl (cJ, 4, .inr (.inl g))), (h7, cuC cv)]) [0, 1, 2, 3, 4, 5, 6, 7] rfl
    have hD9 := hD.sub (ws' := [(h0, snC n0 k0 g0 sv h1 h2 h7), (h1, tmC tv), (h2, boC h3 h5 bv), (h3, mkC h4), (h4, .inl (cJ, 4, .inr (.inl f))), (h5, mkC h6), (h6, .inl (cJ, 4, .inr (.inl g))), (h7, cuC cv)]) [0, 1, 2, 3, 4, 5, 6, 7] (by decide) rfl
    exact W.zret (v := 0) hx hb hr rfl (fun t ht hW => ⟨⟨0, (), rfl, ⟨(by decide), (by rw [← hRES, hE])⟩, ⟨sv, tv, bv, cv, f, g, ⟨(by rw [← hRES, hE]), (by rw [← hRES, hE]), (by rw [← hRES, hE]), (by rw [← hRES, hE]), (by rw [← hRES, hE]), (by rw [← hRES, hE])⟩, by rw [ht]; exact hP9, va_K.moved hW.alike hK, hD9⟩⟩, hS.F ht⟩) hS.2.2 dX8_goesByBoard_20
  · have hE := hE.trans (if_neg c_5)
    refine lv_aload_n hx hb dX8_goesByBoard_7 rfl (lv_at hl 0 rfl) ?_
    refine va_get (D := D) (ci := 8) (v := .int k0) (C := RX8) (T := TX8) (N := 20) hx hb ha inlX8 hown hK hP 0 rfl rfl 1 (by decide) (ha _ kf_X8_49) (fun _ h9 => h9) rfl dX8_goesByBoard_8 ?_
    refine lv_iconst (v := 3) hx hb dX8_goesByBoard_11 (by decide) ?_
    refine lv_icmp_ne (tgt := 19) hx hb dX8_goesByBoard_12 (by decide) (fun c_6 => ?_) (fun c_6 => ?_)
    · have hE := hE.trans (if_neg c_6)
      refine lv_iconst (v := 0) hx hb dX8_goesByBoard_19 (by decide) ?_
      have hP9 := hP.sub (ws' := [(h0, snC n0 k0 g0 sv h1 h2 h7), (h1, tmC tv), (h2, boC h3 h5 bv), (h3, mkC h4), (h4, .inl (cJ, 4, .inr (.inl f))), (h5, mkC h6), (h6, .inl (cJ, 4, .inr (.inl g))), (h7, cuC cv)]) [0, 1, 2, 3, 4, 5, 6, 7] rfl
      have hD9 := hD.sub (ws' := [(h0, snC n0 k0 g0 sv h1 h2 h7), (h1, tmC tv), (h2, boC h3 h5 bv), (h3, mkC h4), (h4, .inl (cJ, 4, .inr (.inl f))), (h5, mkC h6), (h6, .inl (cJ, 4, .inr (.inl g))), (h7, cuC cv)]) [0, 1, 2, 3, 4, 5, 6, 7] (by decide) rfl
      exact W.zret (v := 0) hx hb hr rfl (fun t ht hW => ⟨⟨0, (), rfl, ⟨(by decide), (by rw [← hRES, hE])⟩, ⟨sv, tv, bv, cv, f, g, ⟨(by rw [← hRES, hE]), (by rw [← hRES, hE]), (by rw [← hRES, hE]), (by rw [← hRES, hE]), (by rw [← hRES, hE]), (by rw [← hRES, hE])⟩, by rw [ht]; exact hP9, va_K.moved hW.alike hK, hD9⟩⟩, hS.F ht⟩) hS.2.2 dX8_goesByBoard_20
    · have hE := hE.trans (if_pos c_6)
      refine lv_iconst (v := 1) hx hb dX8_goesByBoard_15 (by decide) ?_
      refine lv_goto (tgt := 20) hx hb dX8_goesByBoard_16 (by decide) ?_
      have hP9 := hP.sub (ws' := [(h0, snC n0 k0 g0 sv h1 h2 h7), (h1, tmC tv), (h2, boC h3 h5 bv), (h3, mkC h4), (h4, .inl (cJ, 4, .inr (.inl f))), (h5, mkC h6), (h6, .inl (cJ, 4, .inr (.inl g))), (h7, cuC cv)]) [0, 1, 2, 3, 4, 5, 6, 7] rfl
      have hD9 := hD.sub (ws' := [(h0, snC n0 k0 g0 sv h1 h2 h7), (h1, tmC tv), (h2, boC h3 h5 bv), (h3, mkC h4), (h4, .inl (cJ, 4, .inr (.inl f))), (h5, mkC h6), (h6, .inl (cJ, 4, .inr (.inl g))), (h7, cuC cv)]) [0, 1, 2, 3, 4, 5, 6, 7] (by decide) rfl
      exact W.zret (v := 1) hx hb hr rfl (fun t ht hW => ⟨⟨1, (), rfl, ⟨(by decide), (by rw [← hRES, hE])⟩, ⟨sv, tv, bv, cv, f, g, ⟨(by rw [← hRES, hE]), (by rw [← hRES, hE]), (by rw [← hRES, hE]), (by rw [← hRES, hE]), (by rw [← hRES, hE]), (by rw [← hRES, hE])⟩, by rw [ht]; exact hP9, va_K.moved hW.alike hK, hD9⟩⟩, hS.F ht⟩) hS.2.2 dX8_goesByBoard_20

set_option maxRecDepth 100000 in
def xc_out (n0 : Int32) (k0 : Int32) (g0 : Int32) (sv : Nat → Int32) (tv : Nat → Int32) (bv : Nat → Int32) (cv : Nat → Int32) (f : Nat → Int64) (g : Nat → Int64) : (Nat → Int32) × (Nat → Int32) × (Nat → Int32) × (Nat → Int32) × (Nat → Int64) × (Nat → Int64) × Int32 := bd (xc_byBoard n0 k0 g0 sv tv bv cv f g) (fun t1 => bd (t1.1) (fun sv => bd (t1.2.1) (fun tv => bd (t1.2.2.1) (fun bv => bd (t1.2.2.2.1) (fun cv => bd (t1.2.2.2.2.1) (fun f => bd (t1.2.2.2.2.2.1) (fun g => bd (t1.2.2.2.2.2.2) (fun v2 => (if v2 = (0 : Int32) then bd (sv 4) (fun v3 => bd (sv 3) (fun v4 => bd (v3 - v4) (fun v5 => (sv, tv, bv, cv, f, g, v5)))) else bd (sv 3) (fun v6 => bd (sv 4) (fun v7 => bd (sv 5) (fun v8 => bd (xc_pipe bv f g v6 v7 v8) (fun t9 => bd (t9.1) (fun bv => bd (t9.2.1) (fun f => bd (t9.2.2.1) (fun g => bd (t9.2.2.2) (fun v10 => (sv, tv, bv, cv, f, g, v10))))))))))))))))))
set_option maxHeartbeats 4000000 in
set_option maxRecDepth 100000 in
theorem s_out (l : Launch) (D : va_G) (cI cJ cZ cO : ClassId) (sz : Nat) (h0 h1 h2 h3 h4 h5 h6 h7 : Nat) (n0 k0 g0 : Int32) (sv tv bv cv : Nat → Int32) (f g : Nat → Int64) : Met l yX8_out (wa yX8_out cX8_out 1 (some .int)) ({ frames := 3, cells := 0, slots := 0, locals := 67 }) (va_Pc [.ref h0] (pw_s D cI cJ cZ cO sz [(h0, snC n0 k0 g0 sv h1 h2 h7), (h1, tmC tv), (h2, boC h3 h5 bv), (h3, mkC h4), (h4, .inl (cJ, 4, .inr (.inl f))), (h5, mkC h6), (h6, .inl (cJ, 4, .inr (.inl g))), (h7, cuC cv)])) (va_Qi (fun (r : Int32) (_ : Unit) => ((True) ∧ r = (xc_out n0 k0 g0 sv tv bv cv f g).2.2.2.2.2.2)) (fun (_ : Unit) (t : State) => ∃ (sv2 tv2 bv2 cv2 : Nat → Int32) (f2 g2 : Nat → Int64), (sv2 = (xc_out n0 k0 g0 sv tv bv cv f g).1 ∧ tv2 = (xc_out n0 k0 g0 sv tv bv cv f g).2.1 ∧ bv2 = (xc_out n0 k0 g0 sv tv bv cv f g).2.2.1 ∧ cv2 = (xc_out n0 k0 g0 sv tv bv cv f g).2.2.2.1 ∧ f2 = (xc_out n0 k0 g0 sv tv bv cv f g).2.2.2.2.1 ∧ g2 = (xc_out n0 k0 g0 sv tv bv cv f g).2.2.2.2.2.1) ∧ pw_t D cI cJ cZ cO (va_A [(h0, snC n0 k0 g0 sv h1 h2 h7), (h1, tmC tv), (h2, boC h3 h5 bv), (h3, mkC h4), (h4, .inl (cJ, 4, .inr (.inl f))), (h5, mkC h6), (h6, .inl (cJ, 4, .inr (.inl g))), (h7, cuC cv)] sz) [(h0, snC n0 k0 g0 sv2 h1 h2 h7), (h1, tmC tv2), (h2, boC h3 h5 bv2), (h3, mkC h4), (h4, .inl (cJ, 4, .inr (.inl f2))), (h5, mkC h6), (h6, .inl (cJ, 4, .inr (.inl g2))), (h7, cuC cv2)] t) (va_A [(h0, snC n0 k0 g0 sv h1 h2 h7), (h1, tmC tv), (h2, boC h3 h5 bv), (h3, mkC h4), (h4, .inl (cJ, 4, .inr (.inl f))), (h5, mkC h6), (h6, .inl (cJ, 4, .inr (.inl g))), (h7, cuC cv)] sz)) 0 0 (va_A [(h0, snC n0 k0 g0 sv h1 h2 h7), (h1, tmC tv), (h2, boC h3 h5 bv), (h3, mkC h4), (h4, .inl (cJ, 4, .inr (.inl f))), (h5, mkC h6), (h6, .inl (cJ, 4, .inr (.inl g))), (h7, cuC cv)] sz) := by
  refine Met.ofW (cc := cX8_out) (maxL := 1) (ret := (some .int)) (by decide) rfl ?_
  intro p e s m args below meth c s₁ B hml hv
  obtain ⟨rfl, hsz, hP, hK, hD0, hN⟩ := hv
  have hx := B.exec
  have hb := B.bytes
  have hr := B.returns
  have hts := atoms_spec (ws := (wa yX8_out cX8_out 1 (some .int))) B.pre
  have ha : ∀ w ∈ wsL_law, w.before _ s = true := fun w h => hts w (List.mem_cons_of_mem _ h)
  have hown : s.vm.findClass RX8 = some m.cls := findClass_of_methodNamed B.named
  have hlocks := B.notSynchronized
  subst hsz
  have hD := hD0.self (sz := s.heap.size)
  generalize hAe : va_A [(h0, snC n0 k0 g0 sv h1 h2 h7), (h1, tmC tv), (h2, boC h3 h5 bv), (h3, mkC h4), (h4, .inl (cJ, 4, .inr (.inl f))), (h5, mkC h6), (h6, .inl (cJ, 4, .inr (.inl g))), (h7, cuC cv)] s.heap.size = A at hD ⊢
  have hA : ∀ q : Nat, s.heap.size ≤ q → A q := fun q h => by rw [← hAe]; exact Or.inr h
  have hS : va_S A s.heap s.heap [] := va_S.rf
  have hP : va_P D vwCl [(h0, snC n0 k0 g0 sv h1 h2 h7), (h1, tmC tv), (h2, boC h3 h5 bv), (h3, mkC h4), (h4, .inl (cJ, 4, .inr (.inl f))), (h5, mkC h6), (h6, .inl (cJ, 4, .inr (.inl g))), (h7, cuC cv)] s.heap := hP
  have hl := lv_entry ([.ref h0]) (n := 1) (Nat.le_of_ble_eq_true rfl)
  rw [lg_entry_eq]
  generalize (lg_sl ([.ref h0]) ++ List.replicate (1 - (lg_sl ([.ref h0])).length) Slot.unset).toArray = ls at hl ⊢
  have hl : lv_has ls 1 [(0, .ref h0)] := hl
  obtain ⟨QP, hQP⟩ : ∃ y : State → Prop, y = (MQ below (va_Qi (fun (r : Int32) (_ : Unit) => ((True) ∧ r = (xc_out n0 k0 g0 sv tv bv cv f g).2.2.2.2.2.2)) (fun (_ : Unit) (t : State) => ∃ (sv2 tv2 bv2 cv2 : Nat → Int32) (f2 g2 : Nat → Int64), (sv2 = (xc_out n0 k0 g0 sv tv bv cv f g).1 ∧ tv2 = (xc_out n0 k0 g0 sv tv bv cv f g).2.1 ∧ bv2 = (xc_out n0 k0 g0 sv tv bv cv f g).2.2.1 ∧ cv2 = (xc_out n0 k0 g0 sv tv bv cv f g).2.2.2.1 ∧ f2 = (xc_out n0 k0 g0 sv tv bv cv f g).2.2.2.2.1 ∧ g2 = (xc_out n0 k0 g0 sv tv bv cv f g).2.2.2.2.2.1) ∧ pw_t D cI cJ cZ cO A [(h0, snC n0 k0 g0 sv2 h1 h2 h7), (h1, tmC tv2), (h2, boC h3 h5 bv2), (h3, mkC h4), (h4, .inl (cJ, 4, .inr (.inl f2))), (h5, mkC h6), (h6, .inl (cJ, 4, .inr (.inl g2))), (h7, cuC cv2)] t) A) #[(.ref h0 : Value)] s 0 0 A) := ⟨_, rfl⟩
  obtain ⟨RES, hRES⟩ : ∃ y, y = (xc_out n0 k0 g0 sv tv bv cv f g) := ⟨_, rfl⟩
  -- from the entry
  have hE := hRES
  unfold xc_out at hE
  refine lv_aload_n hx hb dX8_out_0 rfl (lv_at hl 0 rfl) ?_
  have hPc := hP.sub (ws' := [(h0, snC n0 k0 g0 sv h1 h2 h7), (h1, tmC tv), (h2, boC h3 h5 bv), (h3, mkC h4), (h4, .inl (cJ, 4, .inr (.inl f))), (h5, mkC h6), (h6, .inl (cJ, 4, .inr (.inl g))), (h7, cuC cv)]) [0, 1, 2, 3, 4, 5, 6, 7] rfl
  have hDc := hD.sub (ws' := [(h0, snC n0 k0 g0 sv h1 h2 h7), (h1, tmC tv), (h2, boC h3 h5 bv), (h3, mkC h4), (h4, .inl (cJ, 4, .inr (.inl f))), (h5, mkC h6), (h6, .inl (cJ, 4, .inr (.inl g))), (h7, cuC cv)]) [0, 1, 2, 3, 4, 5, 6, 7] (by decide) rfl
  have hFc := va_free (wc := [(h0, snC n0 k0 g0 sv h1 h2 h7), (h1, tmC tv), (h2, boC h3 h5 bv), (h3, mkC h4), (h4, .inl (cJ, 4, .inr (.inl f))), (h5, mkC h6), (h6, .inl (cJ, 4, .inr (.inl g))), (h7, cuC cv)]) hD hS hA [0, 1, 2, 3, 4, 5, 6, 7] rfl
  refine va_calli (va_runV (As := []) (rest := []) ⟨hx, hb, hml, hown, ha⟩ (s_byBoard l D cI cJ cZ cO _ h0 h1 h2 h3 h4 h5 h6 h7 n0 k0 g0 sv tv bv cv f g) (cwV 0 ha (gaV kl_X8_171 km_X8_goesByBoard ks_X8_goesByBoard kz_X8 kd_X8_goesByBoard) rfl rfl rfl (by decide +kernel) ⟨Nat.le_of_ble_eq_true rfl, Nat.le_of_ble_eq_true rfl⟩) ⟨pw_blind, va_recv hK hPc (ci := 8) (q0 := 0) rfl rfl, fun U hU hW => ⟨rfl, pw_start hU hW hPc hK hDc hN⟩⟩ rfl rfl hl.1 rfl (lv_room (Nat.le_of_ble_eq_true rfl)) dX8_out_1 ⟨Nat.le_of_ble_eq_true rfl, Nat.le_of_ble_eq_true rfl⟩) hS (fun q _ h => hFc q h) hFc (fun r_19 u t H1 locs ht hvm hw hB hz1 hk1 hS => ?_)
  obtain ⟨sv, tv, bv, cv, f, g, ⟨hX0, hX1, hX2, hX3, hX4, hX5⟩, hP1, hK1, hD1⟩ := hB
  have hE := bd_at rfl hE
  have hE := bd_at hX0 hE
  have hE := bd_at hX1 hE
  have hE := bd_at hX2 hE
  have hE := bd_at hX3 hE
  have hE := bd_at hX4 hE
  have hE := bd_at hX5 hE
  have hE := bd_at hw.2 hE
  rw [ht] at hP1
  obtain ⟨hP, hD⟩ := va_join (wr := []) (w1 := [(h0, snC n0 k0 g0 sv h1 h2 h7), (h1, tmC tv), (h2, boC h3 h5 bv), (h3, mkC h4), (h4, .inl (cJ, 4, .inr (.inl f))), (h5, mkC h6), (h6, .inl (cJ, 4, .inr (.inl g))), (h7, cuC cv)]) hP hD [0, 1, 2, 3, 4, 5, 6, 7] [] rfl rfl (by decide) (by decide) hk1 hFc hP1 hD1
  generalize H1 = H at hP hS ⊢
  have hP : va_P D vwCl [(h0, snC n0 k0 g0 sv h1 h2 h7), (h1, tmC tv), (h2, boC h3 h5 bv), (h3, mkC h4), (h4, .inl (cJ, 4, .inr (.inl f))), (h5, mkC h6), (h6, .inl (cJ, 4, .inr (.inl g))), (h7, cuC cv)] H := hP
  have hD : va_D A [(h0, snC n0 k0 g0 sv h1 h2 h7), (h1, tmC tv), (h2, boC h3 h5 bv), (h3, mkC h4), (h4, .inl (cJ, 4, .inr (.inl f))), (h5, mkC h6), (h6, .inl (cJ, 4, .inr (.inl g))), (h7, cuC cv)] := hD
  refine W.widen (k := 0) (n := 0) (Nat.le_of_ble_eq_true rfl) (Nat.le_of_ble_eq_true rfl) ?_
  have hr_19 := hw.1
  refine lv_if_eq (tgt := 29) hx hb dX8_out_4 (by decide) (fun c_26 => ?_) (fun c_26 => ?_)
  · have hE := hE.trans (if_pos c_26)
    refine lv_aload_n hx hb dX8_out_29 rfl (lv_at hl 0 rfl) ?_
    refine va_get (D := D) (ci := 8) (v := .int (sv 4)) (C := RX8) (T := TX8) (N := 20) hx hb ha inlX8 hown hK hP 0 rfl rfl 4 (by decide) (ha _ kf_X8_65) (fun _ h9 => h9) rfl dX8_out_30 ?_
    refine lv_topi (fun x_27 ex_27 => ?_)
    have hE := bd_at ex_27 hE
    refine lv_aload_n hx hb dX8_out_33 rfl (lv_at hl 0 rfl) ?_
    refine va_get (D := D) (ci := 8) (v := .int (sv 3)) (C := RX8) (T := TX8) (N := 20) hx hb ha inlX8 hown hK hP 0 rfl rfl 3 (by decide) (ha _ kf_X8_59) (fun _ h9 => h9) rfl dX8_out_34 ?_
    refine lv_topi (fun x_28 ex_28 => ?_)
    have hE := bd_at ex_28 hE
    refine lv_isub hx hb dX8_out_37 ?_
    refine lv_topi (fun x_29 ex_29 => ?_)
    have hE := bd_at ex_29 hE
    have hP9 := hP.sub (ws' := [(h0, snC n0 k0 g0 sv h1 h2 h7), (h1, tmC tv), (h2, boC h3 h5 bv), (h3, mkC h4), (h4, .inl (cJ, 4, .inr (.inl f))), (h5, mkC h6), (h6, .inl (cJ, 4, .inr (.inl g))), (h7, cuC cv)]) [0, 1, 2, 3, 4, 5, 6, 7] rfl
    have hD9 := hD.sub (ws' := [(h0, snC n0 k0 g0 sv h1 h2 h7), (h1, tmC tv), (h2, boC h3 h5 bv), (h3, mkC h4), (h4, .inl (cJ, 4, .inr (.inl f))), (h5, mkC h6), (h6, .inl (cJ, 4, .inr (.inl g))), (h7, cuC cv)]) [0, 1, 2, 3, 4, 5, 6, 7] (by decide) rfl
    exact W.iret (v := x_29) hx hb hr (fun t ht hW => ⟨⟨x_29, (), rfl, ⟨(by decide), (by rw [← hRES, hE])⟩, ⟨sv, tv, bv, cv, f, g, ⟨(by rw [← hRES, hE]), (by rw [← hRES, hE]), (by rw [← hRES, hE]), (by rw [← hRES, hE]), (by rw [← hRES, hE]), (by rw [← hRES, hE])⟩, by rw [ht]; exact hP9, va_K.moved hW.alike hK, hD9⟩⟩, hS.F ht⟩) hS.2.2 dX8_out_38
  · have hE := hE.trans (if_neg c_26)
    refine lv_aload_n hx hb dX8_out_7 rfl (lv_at hl 0 rfl) ?_
    refine va_get (D := D) (ci := 8) (v := .ref h2) (C := RX8) (T := TX8) (N := 20) hx hb ha inlX8 hown hK hP 0 rfl rfl 18 (by decide) (ha _ kf_X8_35) (fun _ h9 => h9) rfl dX8_out_8 ?_
    refine lv_aload_n hx hb dX8_out_11 rfl (lv_at hl 0 rfl) ?_
    refine va_get (D := D) (ci := 8) (v := .int (sv 3)) (C := RX8) (T := TX8) (N := 20) hx hb ha inlX8 hown hK hP 0 rfl rfl 3 (by decide) (ha _ kf_X8_59) (fun _ h9 => h9) rfl dX8_out_12 ?_
    refine lv_topi (fun x_30 ex_30 => ?_)
    have hE := bd_at ex_30 hE
    refine lv_aload_n hx hb dX8_out_15 rfl (lv_at hl 0 rfl) ?_
    refine va_get (D := D) (ci := 8) (v := .int (sv 4)) (C := RX8) (T := TX8) (N := 20) hx hb ha inlX8 hown hK hP 0 rfl rfl 4 (by decide) (ha _ kf_X8_65) (fun _ h9 => h9) rfl dX8_out_16 ?_
    refine lv_topi (fun x_31 ex_31 => ?_)
    have hE := bd_at ex_31 hE
    refine lv_aload_n hx hb dX8_out_19 rfl (lv_at hl 0 rfl) ?_
    refine va_get (D := D) (ci := 8) (v := .int (sv 5)) (C := RX8) (T := TX8) (N := 20) hx hb ha inlX8 hown hK hP 0 rfl rfl 5 (by decide) (ha _ kf_X8_79) (fun _ h9 => h9) rfl dX8_out_20 ?_
    refine lv_topi (fun x_32 ex_32 => ?_)
    have hE := bd_at ex_32 hE
    have hPc := hP.sub (ws' := [(h2, boC h3 h5 bv), (h3, mkC h4), (h4, .inl (cJ, 4, .inr (.inl f))), (h5, mkC h6), (h6, .inl (cJ, 4, .inr (.inl g)))]) [2, 3, 4, 5, 6] rfl
    have hDc := hD.sub (ws' := [(h2, boC h3 h5 bv), (h3, mkC h4), (h4, .inl (cJ, 4, .inr (.inl f))), (h5, mkC h6), (h6, .inl (cJ, 4, .inr (.inl g)))]) [2, 3, 4, 5, 6] (by decide) rfl
    have hFc := va_free (wc := [(h2, boC h3 h5 bv), (h3, mkC h4), (h4, .inl (cJ, 4, .inr (.inl f))), (h5, mkC h6), (h6, .inl (cJ, 4, .inr (.inl g)))]) hD hS hA [2, 3, 4, 5, 6] rfl
    refine va_calli (va_runV (As := [.int x_30, .int x_31, .int x_32]) (rest := []) ⟨hx, hb, hml, hown, ha⟩ (s_pipe l D cI cJ cZ cO _ h2 h3 h4 h5 h6 bv f g x_30 x_31 x_32) (cwV 3 ha (gaV kl_X8_174 km_X0_pipe ks_X0_pipe kz_X0 kd_X0_pipe) rfl rfl rfl (by decide +kernel) ⟨Nat.le_of_ble_eq_true rfl, Nat.le_of_ble_eq_true rfl⟩) ⟨pw_blind, va_recv hK hPc (ci := 0) (q0 := 0) rfl rfl, fun U hU hW => ⟨rfl, pw_start hU hW hPc hK hDc hN⟩⟩ rfl rfl hl.1 rfl (lv_room (Nat.le_of_ble_eq_true rfl)) dX8_out_23 ⟨Nat.le_of_ble_eq_true rfl, Nat.le_of_ble_eq_true rfl⟩) hS (fun q _ h => hFc q h) hFc (fun r_33 u t H1 locs ht hvm hw hB hz1 hk1 hS => ?_)
    obtain ⟨bv, f, g, ⟨hX0, hX1, hX2⟩, hP1, hK1, hD1⟩ := hB
    have hE := bd_at rfl hE
    have hE := bd_at hX0 hE
    have hE := bd_at hX1 hE
    have hE := bd_at hX2 hE
    have hE := bd_at hw.2 hE
    rw [ht] at hP1
    obtain ⟨hP, hD⟩ := va_join (wr := [(h0, snC n0 k0 g0 sv h1 h2 h7), (h1, tmC tv), (h7, cuC cv)]) (w1 := [(h2, boC h3 h5 bv), (h3, mkC h4), (h4, .inl (cJ, 4, .inr (.inl f))), (h5, mkC h6), (h6, .inl (cJ, 4, .inr (.inl g)))]) hP hD [2, 3, 4, 5, 6] [0, 1, 7] rfl rfl (by decide) (by decide) hk1 hFc hP1 hD1
    generalize H1 = H at hP hS ⊢
    have hP : va_P D vwCl [(h0, snC n0 k0 g0 sv h1 h2 h7), (h1, tmC tv), (h7, cuC cv), (h2, boC h3 h5 bv), (h3, mkC h4), (h4, .inl (cJ, 4, .inr (.inl f))), (h5, mkC h6), (h6, .inl (cJ, 4, .inr (.inl g)))] H := hP
    have hD : va_D A [(h0, snC n0 k0 g0 sv h1 h2 h7), (h1, tmC tv), (h7, cuC cv), (h2, boC h3 h5 bv), (h3, mkC h4), (h4, .inl (cJ, 4, .inr (.inl f))), (h5, mkC h6), (h6, .inl (cJ, 4, .inr (.inl g)))] := hD
    refine W.widen (k := 0) (n := 0) (Nat.le_of_ble_eq_true rfl) (Nat.le_of_ble_eq_true rfl) ?_
    have hr_33 := hw.1
    refine lv_goto (tgt := 38) hx hb dX8_out_26 (by decide) ?_
    have hP9 := hP.sub (ws' := [(h0, snC n0 k0 g0 sv h1 h2 h7), (h1, tmC tv), (h2, boC h3 h5 bv), (h3, mkC h4), (h4, .inl (cJ, 4, .inr (.inl f))), (h5, mkC h6), (h6, .inl (cJ, 4, .inr (.inl g))), (h7, cuC cv)]) [0, 1, 3, 4, 5, 6, 7, 2] rfl
    have hD9 := hD.sub (ws' := [(h0, snC n0 k0 g0 sv h1 h2 h7), (h1, tmC tv), (h2, boC h3 h5 bv), (h3, mkC h4), (h4, .inl (cJ, 4, .inr (.inl f))), (h5, mkC h6), (h6, .inl (cJ, 4, .inr (.inl g))), (h7, cuC cv)]) [0, 1, 3, 4, 5, 6, 7, 2] (by decide) rfl
    exact W.iret (v := r_33) hx hb hr (fun t ht hW => ⟨⟨r_33, (), rfl, ⟨(by decide), (by rw [← hRES, hE])⟩, ⟨sv, tv, bv, cv, f, g, ⟨(by rw [← hRES, hE]), (by rw [← hRES, hE]), (by rw [← hRES, hE]), (by rw [← hRES, hE]), (by rw [← hRES, hE]), (by rw [← hRES, hE])⟩, by rw [ht]; exact hP9, va_K.moved hW.alike hK, hD9⟩⟩, hS.F ht⟩) hS.2.2 dX8_out_38

set_option maxRecDepth 100000 in
def xc_next_43 (n0 : Int32) (k0 : Int32) (g0 : Int32) (sv : Nat → Int32) (tv : Nat → Int32) (bv : Nat → Int32) (f : Nat → Int64) (g : Nat → Int64) (cv : Nat → Int32) (s0 : Int32) : (Nat → Int32) × (Nat → Int32) × (Nat → Int32) × (Nat → Int32) × (Nat → Int64) × (Nat → Int64) × Int32 := (if s0 = ((-1) : Int32) then bd (sv 4) (fun v1 => (if g0 ≤ v1 then (sv, tv, bv, cv, f, g, ((-1) : Int32)) else bd (sv 4) (fun v2 => bd (sv 3) (fun v3 => bd (sv 9) (fun v4 => bd (v3 + v4) (fun v5 => (if v5 ≤ v2 then (sv, tv, bv, cv, f, g, ((-1) : Int32)) else bd (sv 4) (fun v6 => (sv, tv, bv, cv, f, g, v6))))))))) else (sv, tv, bv, cv, f, g, s0))
set_option maxRecDepth 100000 in
def xc_next (n0 : Int32) (k0 : Int32) (g0 : Int32) (sv : Nat → Int32) (tv : Nat → Int32) (bv : Nat → Int32) (cv : Nat → Int32) (f : Nat → Int64) (g : Nat → Int64) : (Nat → Int32) × (Nat → Int32) × (Nat → Int32) × (Nat → Int32) × (Nat → Int64) × (Nat → Int64) × Int32 := bd (xc_out n0 k0 g0 sv tv bv cv f g) (fun t7 => bd (t7.1) (fun sv => bd (t7.2.1) (fun tv => bd (t7.2.2.1) (fun bv => bd (t7.2.2.2.1) (fun cv => bd (t7.2.2.2.2.1) (fun f => bd (t7.2.2.2.2.2.1) (fun g => bd (t7.2.2.2.2.2.2) (fun v8 => bd (sv 6) (fun v9 => bd (v9 / (1024 : Int32)) (fun v10 => (if v8 < v10 then bd (xc_byBoard n0 k0 g0 sv tv bv cv f g) (fun t11 => bd (t11.1) (fun sv => bd (t11.2.1) (fun tv => bd (t11.2.2.1) (fun bv => bd (t11.2.2.2.1) (fun cv => bd (t11.2.2.2.2.1) (fun f => bd (t11.2.2.2.2.2.1) (fun g => bd (t11.2.2.2.2.2.2) (fun v12 => (if v12 = (0 : Int32) then xc_next_43 n0 k0 g0 sv tv bv f g cv ((-1) : Int32) else bd (sv 3) (fun v13 => bd (sv 5) (fun v14 => bd (xc_leastLost bv f g v13 v14) (fun t15 => bd (t15.1) (fun bv => bd (t15.2.1) (fun f => bd (t15.2.2.1) (fun g => bd (t15.2.2.2) (fun v16 => xc_next_43 n0 k0 g0 sv tv bv f g cv v16)))))))))))))))) else (sv, tv, bv, cv, f, g, ((-1) : Int32)))))))))))))
set_option maxHeartbeats 4000000 in
set_option maxRecDepth 100000 in
theorem s_next (l : Launch) (D : va_G) (cI cJ cZ cO : ClassId) (sz : Nat) (h0 h1 h2 h3 h4 h5 h6 h7 : Nat) (n0 k0 g0 : Int32) (sv tv bv cv : Nat → Int32) (f g : Nat → Int64) : Met l yX8_nextToSend (wa yX8_nextToSend cX8_nextToSend 2 (some .int)) ({ frames := 4, cells := 0, slots := 0, locals := 87 }) (va_Pc [.ref h0] (pw_s D cI cJ cZ cO sz [(h0, snC n0 k0 g0 sv h1 h2 h7), (h1, tmC tv), (h2, boC h3 h5 bv), (h3, mkC h4), (h4, .inl (cJ, 4, .inr (.inl f))), (h5, mkC h6), (h6, .inl (cJ, 4, .inr (.inl g))), (h7, cuC cv)])) (va_Qi (fun (r : Int32) (_ : Unit) => ((True) ∧ r = (xc_next n0 k0 g0 sv tv bv cv f g).2.2.2.2.2.2)) (fun (_ : Unit) (t : State) => ∃ (sv2 tv2 bv2 cv2 : Nat → Int32) (f2 g2 : Nat → Int64), (sv2 = (xc_next n0 k0 g0 sv tv bv cv f g).1 ∧ tv2 = (xc_next n0 k0 g0 sv tv bv cv f g).2.1 ∧ bv2 = (xc_next n0 k0 g0 sv tv bv cv f g).2.2.1 ∧ cv2 = (xc_next n0 k0 g0 sv tv bv cv f g).2.2.2.1 ∧ f2 = (xc_next n0 k0 g0 sv tv bv cv f g).2.2.2.2.1 ∧ g2 = (xc_next n0 k0 g0 sv tv bv cv f g).2.2.2.2.2.1) ∧ pw_t D cI cJ cZ cO (va_A [(h0, snC n0 k0 g0 sv h1 h2 h7), (h1, tmC tv), (h2, boC h3 h5 bv), (h3, mkC h4), (h4, .inl (cJ, 4, .inr (.inl f))), (h5, mkC h6), (h6, .inl (cJ, 4, .inr (.inl g))), (h7, cuC cv)] sz) [(h0, snC n0 k0 g0 sv2 h1 h2 h7), (h1, tmC tv2), (h2, boC h3 h5 bv2), (h3, mkC h4), (h4, .inl (cJ, 4, .inr (.inl f2))), (h5, mkC h6), (h6, .inl (cJ, 4, .inr (.inl g2))), (h7, cuC cv2)] t) (va_A [(h0, snC n0 k0 g0 sv h1 h2 h7), (h1, tmC tv), (h2, boC h3 h5 bv), (h3, mkC h4), (h4, .inl (cJ, 4, .inr (.inl f))), (h5, mkC h6), (h6, .inl (cJ, 4, .inr (.inl g))), (h7, cuC cv)] sz)) 0 0 (va_A [(h0, snC n0 k0 g0 sv h1 h2 h7), (h1, tmC tv), (h2, boC h3 h5 bv), (h3, mkC h4), (h4, .inl (cJ, 4, .inr (.inl f))), (h5, mkC h6), (h6, .inl (cJ, 4, .inr (.inl g))), (h7, cuC cv)] sz) := by
  refine Met.ofW (cc := cX8_nextToSend) (maxL := 2) (ret := (some .int)) (by decide) rfl ?_
  intro p e s m args below meth c s₁ B hml hv
  obtain ⟨rfl, hsz, hP, hK, hD0, hN⟩ := hv
  have hx := B.exec
  have hb := B.bytes
  have hr := B.returns
  have hts := atoms_spec (ws := (wa yX8_nextToSend cX8_nextToSend 2 (some .int))) B.pre
  have ha : ∀ w ∈ wsL_law, w.before _ s = true := fun w h => hts w (List.mem_cons_of_mem _ h)
  have hown : s.vm.findClass RX8 = some m.cls := findClass_of_methodNamed B.named
  have hlocks := B.notSynchronized
  subst hsz
  have hD := hD0.self (sz := s.heap.size)
  generalize hAe : va_A [(h0, snC n0 k0 g0 sv h1 h2 h7), (h1, tmC tv), (h2, boC h3 h5 bv), (h3, mkC h4), (h4, .inl (cJ, 4, .inr (.inl f))), (h5, mkC h6), (h6, .inl (cJ, 4, .inr (.inl g))), (h7, cuC cv)] s.heap.size = A at hD ⊢
  have hA : ∀ q : Nat, s.heap.size ≤ q → A q := fun q h => by rw [← hAe]; exact Or.inr h
  have hS : va_S A s.heap s.heap [] := va_S.rf
  have hP : va_P D vwCl [(h0, snC n0 k0 g0 sv h1 h2 h7), (h1, tmC tv), (h2, boC h3 h5 bv), (h3, mkC h4), (h4, .inl (cJ, 4, .inr (.inl f))), (h5, mkC h6), (h6, .inl (cJ, 4, .inr (.inl g))), (h7, cuC cv)] s.heap := hP
  have hl := lv_entry ([.ref h0]) (n := 2) (Nat.le_of_ble_eq_true rfl)
  rw [lg_entry_eq]
  generalize (lg_sl ([.ref h0]) ++ List.replicate (2 - (lg_sl ([.ref h0])).length) Slot.unset).toArray = ls at hl ⊢
  have hl : lv_has ls 2 [(0, .ref h0)] := hl
  obtain ⟨QP, hQP⟩ : ∃ y : State → Prop, y = (MQ below (va_Qi (fun (r : Int32) (_ : Unit) => ((True) ∧ r = (xc_next n0 k0 g0 sv tv bv cv f g).2.2.2.2.2.2)) (fun (_ : Unit) (t : State) => ∃ (sv2 tv2 bv2 cv2 : Nat → Int32) (f2 g2 : Nat → Int64), (sv2 = (xc_next n0 k0 g0 sv tv bv cv f g).1 ∧ tv2 = (xc_next n0 k0 g0 sv tv bv cv f g).2.1 ∧ bv2 = (xc_next n0 k0 g0 sv tv bv cv f g).2.2.1 ∧ cv2 = (xc_next n0 k0 g0 sv tv bv cv f g).2.2.2.1 ∧ f2 = (xc_next n0 k0 g0 sv tv bv cv f g).2.2.2.2.1 ∧ g2 = (xc_next n0 k0 g0 sv tv bv cv f g).2.2.2.2.2.1) ∧ pw_t D cI cJ cZ cO A [(h0, snC n0 k0 g0 sv2 h1 h2 h7), (h1, tmC tv2), (h2, boC h3 h5 bv2), (h3, mkC h4), (h4, .inl (cJ, 4, .inr (.inl f2))), (h5, mkC h6), (h6, .inl (cJ, 4, .inr (.inl g2))), (h7, cuC cv2)] t) A) #[(.ref h0 : Value)] s 0 0 A) := ⟨_, rfl⟩
  obtain ⟨RES, hRES⟩ : ∃ y, y = (xc_next n0 k0 g0 sv tv bv cv f g) := ⟨_, rfl⟩
  have J_43 : ∀ (sv : Nat → Int32) (tv : Nat → Int32) (bv : Nat → Int32) (f : Nat → Int64) (g : Nat → Int64) (cv : Nat → Int32) (H : Heap) (locs : List Loc), va_P D vwCl [(h0, snC n0 k0 g0 sv h1 h2 h7), (h1, tmC tv), (h2, boC h3 h5 bv), (h3, mkC h4), (h4, .inl (cJ, 4, .inr (.inl f))), (h5, mkC h6), (h6, .inl (cJ, 4, .inr (.inl g))), (h7, cuC cv)] H → va_D A [(h0, snC n0 k0 g0 sv h1 h2 h7), (h1, tmC tv), (h2, boC h3 h5 bv), (h3, mkC h4), (h4, .inl (cJ, 4, .inr (.inl f))), (h5, mkC h6), (h6, .inl (cJ, 4, .inr (.inl g))), (h7, cuC cv)] → va_S A s.heap H locs → ∀ (s0 : Int32) (ls : Array Slot), lv_has ls 2 [(0, .ref h0)] → RES = xc_next_43 n0 k0 g0 sv tv bv f g cv s0 → W p l e ({ frames := 4, cells := 0, slots := 0, locals := 87 }) s m #[(.ref h0 : Value)] below meth c H locs 0 0 QP (F0 m 43 ls [.int s0]) := by
    intro sv tv bv f g cv H locs hP hD hS s0 ls hl hE
    unfold xc_next_43 at hE
    refine lv_istore_n (lv' := [(1, .int s0), (0, .ref h0)]) hx hb dX8_nextToSend_43 rfl hl (by decide) rfl (fun ls hl => ?_)
    refine lv_iload_n hx hb dX8_nextToSend_44 rfl (lv_at hl 0 rfl) ?_
    refine lv_iconst (v := (-1)) hx hb dX8_nextToSend_45 (by decide) ?_
    refine lv_icmp_eq (tgt := 51) hx hb dX8_nextToSend_46 (by decide) (fun c_34 => ?_) (fun c_34 => ?_)
    · have hE := hE.trans (if_pos c_34)
      refine lv_aload_n hx hb dX8_nextToSend_51 rfl (lv_at hl 1 rfl) ?_
      refine va_get (D := D) (ci := 8) (v := .int (sv 4)) (C := RX8) (T := TX8) (N := 20) hx hb ha inlX8 hown hK hP 0 rfl rfl 4 (by decide) (ha _ kf_X8_65) (fun _ h9 => h9) rfl dX8_nextToSend_52 ?_
      refine lv_topi (fun x_35 ex_35 => ?_)
      have hE := bd_at ex_35 hE
      refine lv_aload_n hx hb dX8_nextToSend_55 rfl (lv_at hl 1 rfl) ?_
      refine va_get (D := D) (ci := 8) (v := .int g0) (C := RX8) (T := TX8) (N := 20) hx hb ha inlX8 hown hK hP 0 rfl rfl 2 (by decide) (ha _ kf_X8_52) (fun _ h9 => h9) rfl dX8_nextToSend_56 ?_
      refine lv_icmp_ge (tgt := 85) hx hb dX8_nextToSend_59 (by decide) (fun c_36 => ?_) (fun c_36 => ?_)
      · have hE := hE.trans (if_pos c_36)
        refine lv_iconst (v := (-1)) hx hb dX8_nextToSend_85 (by decide) ?_
        rw [hQP]
        have hP9 := hP.sub (ws' := [(h0, snC n0 k0 g0 sv h1 h2 h7), (h1, tmC tv), (h2, boC h3 h5 bv), (h3, mkC h4), (h4, .inl (cJ, 4, .inr (.inl f))), (h5, mkC h6), (h6, .inl (cJ, 4, .inr (.inl g))), (h7, cuC cv)]) [0, 1, 2, 3, 4, 5, 6, 7] rfl
        have hD9 := hD.sub (ws' := [(h0, snC n0 k0 g0 sv h1 h2 h7), (h1, tmC tv), (h2, boC h3 h5 bv), (h3, mkC h4), (h4, .inl (cJ, 4, .inr (.inl f))), (h5, mkC h6), (h6, .inl (cJ, 4, .inr (.inl g))), (h7, cuC cv)]) [0, 1, 2, 3, 4, 5, 6, 7] (by decide) rfl
        exact W.iret (v := (-1)) hx hb hr (fun t ht hW => ⟨⟨(-1), (), rfl, ⟨(by decide), (by rw [← hRES, hE])⟩, ⟨sv, tv, bv, cv, f, g, ⟨(by rw [← hRES, hE]), (by rw [← hRES, hE]), (by rw [← hRES, hE]), (by rw [← hRES, hE]), (by rw [← hRES, hE]), (by rw [← hRES, hE])⟩, by rw [ht]; exact hP9, va_K.moved hW.alike hK, hD9⟩⟩, hS.F ht⟩) hS.2.2 dX8_nextToSend_86
      · have hE := hE.trans (if_neg c_36)
        refine lv_aload_n hx hb dX8_nextToSend_62 rfl (lv_at hl 1 rfl) ?_
        refine va_get (D := D) (ci := 8) (v := .int (sv 4)) (C := RX8) (T := TX8) (N := 20) hx hb ha inlX8 hown hK hP 0 rfl rfl 4 (by decide) (ha _ kf_X8_65) (fun _ h9 => h9) rfl dX8_nextToSend_63 ?_
        refine lv_topi (fun x_37 ex_37 => ?_)
        have hE := bd_at ex_37 hE
        refine lv_aload_n hx hb dX8_nextToSend_66 rfl (lv_at hl 1 rfl) ?_
        refine va_get (D := D) (ci := 8) (v := .int (sv 3)) (C := RX8) (T := TX8) (N := 20) hx hb ha inlX8 hown hK hP 0 rfl rfl 3 (by decide) (ha _ kf_X8_59) (fun _ h9 => h9) rfl dX8_nextToSend_67 ?_
        refine lv_topi (fun x_38 ex_38 => ?_)
        have hE := bd_at ex_38 hE
        refine lv_aload_n hx hb dX8_nextToSend_70 rfl (lv_at hl 1 rfl) ?_
        refine va_get (D := D) (ci := 8) (v := .int (sv 9)) (C := RX8) (T := TX8) (N := 20) hx hb ha inlX8 hown hK hP 0 rfl rfl 9 (by decide) (ha _ kf_X8_22) (fun _ h9 => h9) rfl dX8_nextToSend_71 ?_
        refine lv_topi (fun x_39 ex_39 => ?_)
        have hE := bd_at ex_39 hE
        refine lv_iadd hx hb dX8_nextToSend_74 ?_
        refine lv_topi (fun x_40 ex_40 => ?_)
        have hE := bd_at ex_40 hE
        refine lv_icmp_ge (tgt := 85) hx hb dX8_nextToSend_75 (by decide) (fun c_41 => ?_) (fun c_41 => ?_)
        · have hE := hE.trans (if_pos c_41)
          refine lv_iconst (v := (-1)) hx hb dX8_nextToSend_85 (by decide) ?_
          rw [hQP]
          have hP9 := hP.sub (ws' := [(h0, snC n0 k0 g0 sv h1 h2 h7), (h1, tmC tv), (h2, boC h3 h5 bv), (h3, mkC h4), (h4, .inl (cJ, 4, .inr (.inl f))), (h5, mkC h6), (h6, .inl (cJ, 4, .inr (.inl g))), (h7, cuC cv)]) [0, 1, 2, 3, 4, 5, 6, 7] rfl
          have hD9 := hD.sub (ws' := [(h0, snC n0 k0 g0 sv h1 h2 h7), (h1, tmC tv), (h2, boC h3 h5 bv), (h3, mkC h4), (h4, .inl (cJ, 4, .inr (.inl f))), (h5, mkC h6), (h6, .inl (cJ, 4, .inr (.inl g))), (h7, cuC cv)]) [0, 1, 2, 3, 4, 5, 6, 7] (by decide) rfl
          exact W.iret (v := (-1)) hx hb hr (fun t ht hW => ⟨⟨(-1), (), rfl, ⟨(by decide), (by rw [← hRES, hE])⟩, ⟨sv, tv, bv, cv, f, g, ⟨(by rw [← hRES, hE]), (by rw [← hRES, hE]), (by rw [← hRES, hE]), (by rw [← hRES, hE]), (by rw [← hRES, hE]), (by rw [← hRES, hE])⟩, by rw [ht]; exact hP9, va_K.moved hW.alike hK, hD9⟩⟩, hS.F ht⟩) hS.2.2 dX8_nextToSend_86
        · have hE := hE.trans (if_neg c_41)
          refine lv_aload_n hx hb dX8_nextToSend_78 rfl (lv_at hl 1 rfl) ?_
          refine va_get (D := D) (ci := 8) (v := .int (sv 4)) (C := RX8) (T := TX8) (N := 20) hx hb ha inlX8 hown hK hP 0 rfl rfl 4 (by decide) (ha _ kf_X8_65) (fun _ h9 => h9) rfl dX8_nextToSend_79 ?_
          refine lv_topi (fun x_42 ex_42 => ?_)
          have hE := bd_at ex_42 hE
          refine lv_goto (tgt := 86) hx hb dX8_nextToSend_82 (by decide) ?_
          rw [hQP]
          have hP9 := hP.sub (ws' := [(h0, snC n0 k0 g0 sv h1 h2 h7), (h1, tmC tv), (h2, boC h3 h5 bv), (h3, mkC h4), (h4, .inl (cJ, 4, .inr (.inl f))), (h5, mkC h6), (h6, .inl (cJ, 4, .inr (.inl g))), (h7, cuC cv)]) [0, 1, 2, 3, 4, 5, 6, 7] rfl
          have hD9 := hD.sub (ws' := [(h0, snC n0 k0 g0 sv h1 h2 h7), (h1, tmC tv), (h2, boC h3 h5 bv), (h3, mkC h4), (h4, .inl (cJ, 4, .inr (.inl f))), (h5, mkC h6), (h6, .inl (cJ, 4, .inr (.inl g))), (h7, cuC cv)]) [0, 1, 2, 3, 4, 5, 6, 7] (by decide) rfl
          exact W.iret (v := x_42) hx hb hr (fun t ht hW => ⟨⟨x_42, (), rfl, ⟨(by decide), (by rw [← hRES, hE])⟩, ⟨sv, tv, bv, cv, f, g, ⟨(by rw [← hRES, hE]), (by rw [← hRES, hE]), (by rw [← hRES, hE]), (by rw [← hRES, hE]), (by rw [← hRES, hE]), (by rw [← hRES, hE])⟩, by rw [ht]; exact hP9, va_K.moved hW.alike hK, hD9⟩⟩, hS.F ht⟩) hS.2.2 dX8_nextToSend_86
    · have hE := hE.trans (if_neg c_34)
      refine lv_iload_n hx hb dX8_nextToSend_49 rfl (lv_at hl 0 rfl) ?_
      rw [hQP]
      have hP9 := hP.sub (ws' := [(h0, snC n0 k0 g0 sv h1 h2 h7), (h1, tmC tv), (h2, boC h3 h5 bv), (h3, mkC h4), (h4, .inl (cJ, 4, .inr (.inl f))), (h5, mkC h6), (h6, .inl (cJ, 4, .inr (.inl g))), (h7, cuC cv)]) [0, 1, 2, 3, 4, 5, 6, 7] rfl
      have hD9 := hD.sub (ws' := [(h0, snC n0 k0 g0 sv h1 h2 h7), (h1, tmC tv), (h2, boC h3 h5 bv), (h3, mkC h4), (h4, .inl (cJ, 4, .inr (.inl f))), (h5, mkC h6), (h6, .inl (cJ, 4, .inr (.inl g))), (h7, cuC cv)]) [0, 1, 2, 3, 4, 5, 6, 7] (by decide) rfl
      exact W.iret (v := s0) hx hb hr (fun t ht hW => ⟨⟨s0, (), rfl, ⟨(by decide), (by rw [← hRES, hE])⟩, ⟨sv, tv, bv, cv, f, g, ⟨(by rw [← hRES, hE]), (by rw [← hRES, hE]), (by rw [← hRES, hE]), (by rw [← hRES, hE]), (by rw [← hRES, hE]), (by rw [← hRES, hE])⟩, by rw [ht]; exact hP9, va_K.moved hW.alike hK, hD9⟩⟩, hS.F ht⟩) hS.2.2 dX8_nextToSend_50
  rw [hQP] at J_43
  -- from the entry
  have hE := hRES
  unfold xc_next at hE
  refine lv_aload_n hx hb dX8_nextToSend_0 rfl (lv_at hl 0 rfl) ?_
  have hPc := hP.sub (ws' := [(h0, snC n0 k0 g0 sv h1 h2 h7), (h1, tmC tv), (h2, boC h3 h5 bv), (h3, mkC h4), (h4, .inl (cJ, 4, .inr (.inl f))), (h5, mkC h6), (h6, .inl (cJ, 4, .inr (.inl g))), (h7, cuC cv)]) [0, 1, 2, 3, 4, 5, 6, 7] rfl
  have hDc := hD.sub (ws' := [(h0, snC n0 k0 g0 sv h1 h2 h7), (h1, tmC tv), (h2, boC h3 h5 bv), (h3, mkC h4), (h4, .inl (cJ, 4, .inr (.inl f))), (h5, mkC h6), (h6, .inl (cJ, 4, .inr (.inl g))), (h7, cuC cv)]) [0, 1, 2, 3, 4, 5, 6, 7] (by decide) rfl
  have hFc := va_free (wc := [(h0, snC n0 k0 g0 sv h1 h2 h7), (h1, tmC tv), (h2, boC h3 h5 bv), (h3, mkC h4), (h4, .inl (cJ, 4, .inr (.inl f))), (h5, mkC h6), (h6, .inl (cJ, 4, .inr (.inl g))), (h7, cuC cv)]) hD hS hA [0, 1, 2, 3, 4, 5, 6, 7] rfl
  refine va_calli (va_runV (As := []) (rest := []) ⟨hx, hb, hml, hown, ha⟩ (s_out l D cI cJ cZ cO _ h0 h1 h2 h3 h4 h5 h6 h7 n0 k0 g0 sv tv bv cv f g) (cwV 0 ha (gaV kl_X8_168 km_X8_out ks_X8_out kz_X8 kd_X8_out) rfl rfl rfl (by decide +kernel) ⟨Nat.le_of_ble_eq_true rfl, Nat.le_of_ble_eq_true rfl⟩) ⟨pw_blind, va_recv hK hPc (ci := 8) (q0 := 0) rfl rfl, fun U hU hW => ⟨rfl, pw_start hU hW hPc hK hDc hN⟩⟩ rfl rfl hl.1 rfl (lv_room (Nat.le_of_ble_eq_true rfl)) dX8_nextToSend_1 ⟨Nat.le_of_ble_eq_true rfl, Nat.le_of_ble_eq_true rfl⟩) hS (fun q _ h => hFc q h) hFc (fun r_43 u t H1 locs ht hvm hw hB hz1 hk1 hS => ?_)
  obtain ⟨sv, tv, bv, cv, f, g, ⟨hX0, hX1, hX2, hX3, hX4, hX5⟩, hP1, hK1, hD1⟩ := hB
  have hE := bd_at rfl hE
  have hE := bd_at hX0 hE
  have hE := bd_at hX1 hE
  have hE := bd_at hX2 hE
  have hE := bd_at hX3 hE
  have hE := bd_at hX4 hE
  have hE := bd_at hX5 hE
  have hE := bd_at hw.2 hE
  rw [ht] at hP1
  obtain ⟨hP, hD⟩ := va_join (wr := []) (w1 := [(h0, snC n0 k0 g0 sv h1 h2 h7), (h1, tmC tv), (h2, boC h3 h5 bv), (h3, mkC h4), (h4, .inl (cJ, 4, .inr (.inl f))), (h5, mkC h6), (h6, .inl (cJ, 4, .inr (.inl g))), (h7, cuC cv)]) hP hD [0, 1, 2, 3, 4, 5, 6, 7] [] rfl rfl (by decide) (by decide) hk1 hFc hP1 hD1
  generalize H1 = H at hP hS ⊢
  have hP : va_P D vwCl [(h0, snC n0 k0 g0 sv h1 h2 h7), (h1, tmC tv), (h2, boC h3 h5 bv), (h3, mkC h4), (h4, .inl (cJ, 4, .inr (.inl f))), (h5, mkC h6), (h6, .inl (cJ, 4, .inr (.inl g))), (h7, cuC cv)] H := hP
  have hD : va_D A [(h0, snC n0 k0 g0 sv h1 h2 h7), (h1, tmC tv), (h2, boC h3 h5 bv), (h3, mkC h4), (h4, .inl (cJ, 4, .inr (.inl f))), (h5, mkC h6), (h6, .inl (cJ, 4, .inr (.inl g))), (h7, cuC cv)] := hD
  refine W.widen (k := 0) (n := 0) (Nat.le_of_ble_eq_true rfl) (Nat.le_of_ble_eq_true rfl) ?_
  have hr_43 := hw.1
  refine lv_aload_n hx hb dX8_nextToSend_4 rfl (lv_at hl 0 rfl) ?_
  refine va_get (D := D) (ci := 8) (v := .int (sv 6)) (C := RX8) (T := TX8) (N := 20) hx hb ha inlX8 hown hK hP 0 rfl rfl 6 (by decide) (ha _ kf_X8_9) (fun _ h9 => h9) rfl dX8_nextToSend_5 ?_
  refine lv_topi (fun x_50 ex_50 => ?_)
  have hE := bd_at ex_50 hE
  refine lv_sipush (v := 1024) hx hb dX8_nextToSend_8 (by decide) ?_
  refine lv_idiv hx hb dX8_nextToSend_11 (by decide) ?_
  refine lv_topi (fun x_51 ex_51 => ?_)
  have hE := bd_at ex_51 hE
  refine lv_icmp_lt (tgt := 17) hx hb dX8_nextToSend_12 (by decide) (fun c_52 => ?_) (fun c_52 => ?_)
  · have hE := hE.trans (if_pos c_52)
    refine lv_aload_n hx hb dX8_nextToSend_17 rfl (lv_at hl 0 rfl) ?_
    have hPc := hP.sub (ws' := [(h0, snC n0 k0 g0 sv h1 h2 h7), (h1, tmC tv), (h2, boC h3 h5 bv), (h3, mkC h4), (h4, .inl (cJ, 4, .inr (.inl f))), (h5, mkC h6), (h6, .inl (cJ, 4, .inr (.inl g))), (h7, cuC cv)]) [0, 1, 2, 3, 4, 5, 6, 7] rfl
    have hDc := hD.sub (ws' := [(h0, snC n0 k0 g0 sv h1 h2 h7), (h1, tmC tv), (h2, boC h3 h5 bv), (h3, mkC h4), (h4, .inl (cJ, 4, .inr (.inl f))), (h5, mkC h6), (h6, .inl (cJ, 4, .inr (.inl g))), (h7, cuC cv)]) [0, 1, 2, 3, 4, 5, 6, 7] (by decide) rfl
    have hFc := va_free (wc := [(h0, snC n0 k0 g0 sv h1 h2 h7), (h1, tmC tv), (h2, boC h3 h5 bv), (h3, mkC h4), (h4, .inl (cJ, 4, .inr (.inl f))), (h5, mkC h6), (h6, .inl (cJ, 4, .inr (.inl g))), (h7, cuC cv)]) hD hS hA [0, 1, 2, 3, 4, 5, 6, 7] rfl
    refine va_calli (va_runV (As := []) (rest := []) ⟨hx, hb, hml, hown, ha⟩ (s_byBoard l D cI cJ cZ cO _ h0 h1 h2 h3 h4 h5 h6 h7 n0 k0 g0 sv tv bv cv f g) (cwV 0 ha (gaV kl_X8_171 km_X8_goesByBoard ks_X8_goesByBoard kz_X8 kd_X8_goesByBoard) rfl rfl rfl (by decide +kernel) ⟨Nat.le_of_ble_eq_true rfl, Nat.le_of_ble_eq_true rfl⟩) ⟨pw_blind, va_recv hK hPc (ci := 8) (q0 := 0) rfl rfl, fun U hU hW => ⟨rfl, pw_start hU hW hPc hK hDc hN⟩⟩ rfl rfl hl.1 rfl (lv_room (Nat.le_of_ble_eq_true rfl)) dX8_nextToSend_18 ⟨Nat.le_of_ble_eq_true rfl, Nat.le_of_ble_eq_true rfl⟩) hS (fun q _ h => hFc q h) hFc (fun r_53 u t H1 locs ht hvm hw hB hz1 hk1 hS => ?_)
    obtain ⟨sv, tv, bv, cv, f, g, ⟨hX0, hX1, hX2, hX3, hX4, hX5⟩, hP1, hK1, hD1⟩ := hB
    have hE := bd_at rfl hE
    have hE := bd_at hX0 hE
    have hE := bd_at hX1 hE
    have hE := bd_at hX2 hE
    have hE := bd_at hX3 hE
    have hE := bd_at hX4 hE
    have hE := bd_at hX5 hE
    have hE := bd_at hw.2 hE
    rw [ht] at hP1
    obtain ⟨hP, hD⟩ := va_join (wr := []) (w1 := [(h0, snC n0 k0 g0 sv h1 h2 h7), (h1, tmC tv), (h2, boC h3 h5 bv), (h3, mkC h4), (h4, .inl (cJ, 4, .inr (.inl f))), (h5, mkC h6), (h6, .inl (cJ, 4, .inr (.inl g))), (h7, cuC cv)]) hP hD [0, 1, 2, 3, 4, 5, 6, 7] [] rfl rfl (by decide) (by decide) hk1 hFc hP1 hD1
    generalize H1 = H at hP hS ⊢
    have hP : va_P D vwCl [(h0, snC n0 k0 g0 sv h1 h2 h7), (h1, tmC tv), (h2, boC h3 h5 bv), (h3, mkC h4), (h4, .inl (cJ, 4, .inr (.inl f))), (h5, mkC h6), (h6, .inl (cJ, 4, .inr (.inl g))), (h7, cuC cv)] H := hP
    have hD : va_D A [(h0, snC n0 k0 g0 sv h1 h2 h7), (h1, tmC tv), (h2, boC h3 h5 bv), (h3, mkC h4), (h4, .inl (cJ, 4, .inr (.inl f))), (h5, mkC h6), (h6, .inl (cJ, 4, .inr (.inl g))), (h7, cuC cv)] := hD
    refine W.widen (k := 0) (n := 0) (Nat.le_of_ble_eq_true rfl) (Nat.le_of_ble_eq_true rfl) ?_
    have hr_53 := hw.1
    refine lv_if_eq (tgt := 42) hx hb dX8_nextToSend_21 (by decide) (fun c_60 => ?_) (fun c_60 => ?_)
    · have hE := hE.trans (if_pos c_60)
      refine lv_iconst (v := (-1)) hx hb dX8_nextToSend_42 (by decide) ?_
      exact J_43 sv tv bv f g cv _ _ hP hD hS (-1) _ (lv_sub hl [0] rfl) hE
    · have hE := hE.trans (if_neg c_60)
      refine lv_aload_n hx hb dX8_nextToSend_24 rfl (lv_at hl 0 rfl) ?_
      refine va_get (D := D) (ci := 8) (v := .ref h2) (C := RX8) (T := TX8) (N := 20) hx hb ha inlX8 hown hK hP 0 rfl rfl 18 (by decide) (ha _ kf_X8_35) (fun _ h9 => h9) rfl dX8_nextToSend_25 ?_
      refine lv_aload_n hx hb dX8_nextToSend_28 rfl (lv_at hl 0 rfl) ?_
      refine va_get (D := D) (ci := 8) (v := .int (sv 3)) (C := RX8) (T := TX8) (N := 20) hx hb ha inlX8 hown hK hP 0 rfl rfl 3 (by decide) (ha _ kf_X8_59) (fun _ h9 => h9) rfl dX8_nextToSend_29 ?_
      refine lv_topi (fun x_61 ex_61 => ?_)
      have hE := bd_at ex_61 hE
      refine lv_aload_n hx hb dX8_nextToSend_32 rfl (lv_at hl 0 rfl) ?_
      refine va_get (D := D) (ci := 8) (v := .int (sv 5)) (C := RX8) (T := TX8) (N := 20) hx hb ha inlX8 hown hK hP 0 rfl rfl 5 (by decide) (ha _ kf_X8_79) (fun _ h9 => h9) rfl dX8_nextToSend_33 ?_
      refine lv_topi (fun x_62 ex_62 => ?_)
      have hE := bd_at ex_62 hE
      have hPc := hP.sub (ws' := [(h2, boC h3 h5 bv), (h3, mkC h4), (h4, .inl (cJ, 4, .inr (.inl f))), (h5, mkC h6), (h6, .inl (cJ, 4, .inr (.inl g)))]) [2, 3, 4, 5, 6] rfl
      have hDc := hD.sub (ws' := [(h2, boC h3 h5 bv), (h3, mkC h4), (h4, .inl (cJ, 4, .inr (.inl f))), (h5, mkC h6), (h6, .inl (cJ, 4, .inr (.inl g)))]) [2, 3, 4, 5, 6] (by decide) rfl
      have hFc := va_free (wc := [(h2, boC h3 h5 bv), (h3, mkC h4), (h4, .inl (cJ, 4, .inr (.inl f))), (h5, mkC h6), (h6, .inl (cJ, 4, .inr (.inl g)))]) hD hS hA [2, 3, 4, 5, 6] rfl
      refine va_calli (va_runV (As := [.int x_61, .int x_62]) (rest := []) ⟨hx, hb, hml, hown, ha⟩ (s_leastLost l D cI cJ cZ cO _ h2 h3 h4 h5 h6 bv f g x_61 x_62) (cwV 2 ha (gaV kl_X8_178 km_X0_leastLost ks_X0_leastLost kz_X0 kd_X0_leastLost) rfl rfl rfl (by decide +kernel) ⟨Nat.le_of_ble_eq_true rfl, Nat.le_of_ble_eq_true rfl⟩) ⟨pw_blind, va_recv hK hPc (ci := 0) (q0 := 0) rfl rfl, fun U hU hW => ⟨rfl, pw_start hU hW hPc hK hDc hN⟩⟩ rfl rfl hl.1 rfl (lv_room (Nat.le_of_ble_eq_true rfl)) dX8_nextToSend_36 ⟨Nat.le_of_ble_eq_true rfl, Nat.le_of_ble_eq_true rfl⟩) hS (fun q _ h => hFc q h) hFc (fun r_63 u t H1 locs ht hvm hw hB hz1 hk1 hS => ?_)
      obtain ⟨bv, f, g, ⟨hX0, hX1, hX2⟩, hP1, hK1, hD1⟩ := hB
      have hE := bd_at rfl hE
      have hE := bd_at hX0 hE
      have hE := bd_at hX1 hE
      have hE := bd_at hX2 hE
      have hE := bd_at hw.2 hE
      rw [ht] at hP1
      obtain ⟨hP, hD⟩ := va_join (wr := [(h0, snC n0 k0 g0 sv h1 h2 h7), (h1, tmC tv), (h7, cuC cv)]) (w1 := [(h2, boC h3 h5 bv), (h3, mkC h4), (h4, .inl (cJ, 4, .inr (.inl f))), (h5, mkC h6), (h6, .inl (cJ, 4, .inr (.inl g)))]) hP hD [2, 3, 4, 5, 6] [0, 1, 7] rfl rfl (by decide) (by decide) hk1 hFc hP1 hD1
      generalize H1 = H at hP hS ⊢
      have hP : va_P D vwCl [(h0, snC n0 k0 g0 sv h1 h2 h7), (h1, tmC tv), (h7, cuC cv), (h2, boC h3 h5 bv), (h3, mkC h4), (h4, .inl (cJ, 4, .inr (.inl f))), (h5, mkC h6), (h6, .inl (cJ, 4, .inr (.inl g)))] H := hP
      have hD : va_D A [(h0, snC n0 k0 g0 sv h1 h2 h7), (h1, tmC tv), (h7, cuC cv), (h2, boC h3 h5 bv), (h3, mkC h4), (h4, .inl (cJ, 4, .inr (.inl f))), (h5, mkC h6), (h6, .inl (cJ, 4, .inr (.inl g)))] := hD
      refine W.widen (k := 0) (n := 0) (Nat.le_of_ble_eq_true rfl) (Nat.le_of_ble_eq_true rfl) ?_
      have hr_63 := hw.1
      refine lv_goto (tgt := 43) hx hb dX8_nextToSend_39 (by decide) ?_
      exact J_43 sv tv bv f g cv _ _ (hP.sub (ws' := [(h0, snC n0 k0 g0 sv h1 h2 h7), (h1, tmC tv), (h2, boC h3 h5 bv), (h3, mkC h4), (h4, .inl (cJ, 4, .inr (.inl f))), (h5, mkC h6), (h6, .inl (cJ, 4, .inr (.inl g))), (h7, cuC cv)]) [0, 1, 3, 4, 5, 6, 7, 2] rfl) (hD.sub (ws' := [(h0, snC n0 k0 g0 sv h1 h2 h7), (h1, tmC tv), (h2, boC h3 h5 bv), (h3, mkC h4), (h4, .inl (cJ, 4, .inr (.inl f))), (h5, mkC h6), (h6, .inl (cJ, 4, .inr (.inl g))), (h7, cuC cv)]) [0, 1, 3, 4, 5, 6, 7, 2] (by decide) rfl) hS r_63 _ (lv_sub hl [0] rfl) hE
  · have hE := hE.trans (if_neg c_52)
    refine lv_iconst (v := (-1)) hx hb dX8_nextToSend_15 (by decide) ?_
    have hP9 := hP.sub (ws' := [(h0, snC n0 k0 g0 sv h1 h2 h7), (h1, tmC tv), (h2, boC h3 h5 bv), (h3, mkC h4), (h4, .inl (cJ, 4, .inr (.inl f))), (h5, mkC h6), (h6, .inl (cJ, 4, .inr (.inl g))), (h7, cuC cv)]) [0, 1, 2, 3, 4, 5, 6, 7] rfl
    have hD9 := hD.sub (ws' := [(h0, snC n0 k0 g0 sv h1 h2 h7), (h1, tmC tv), (h2, boC h3 h5 bv), (h3, mkC h4), (h4, .inl (cJ, 4, .inr (.inl f))), (h5, mkC h6), (h6, .inl (cJ, 4, .inr (.inl g))), (h7, cuC cv)]) [0, 1, 2, 3, 4, 5, 6, 7] (by decide) rfl
    exact W.iret (v := (-1)) hx hb hr (fun t ht hW => ⟨⟨(-1), (), rfl, ⟨(by decide), (by rw [← hRES, hE])⟩, ⟨sv, tv, bv, cv, f, g, ⟨(by rw [← hRES, hE]), (by rw [← hRES, hE]), (by rw [← hRES, hE]), (by rw [← hRES, hE]), (by rw [← hRES, hE]), (by rw [← hRES, hE])⟩, by rw [ht]; exact hP9, va_K.moved hW.alike hK, hD9⟩⟩, hS.F ht⟩) hS.2.2 dX8_nextToSend_16

set_option maxRecDepth 100000 in
def xc_sgoOn_35 (n0 : Int32) (k0 : Int32) (g0 : Int32) (n1 : Int32) (n2 : Int32) (sv : Nat → Int32) (tv : Nat → Int32) (bv : Nat → Int32) (f : Nat → Int64) (g : Nat → Int64) (cv : Nat → Int32) (i1 : Int32) (i2 : Int32) (i3 : Int32) : (Nat → Int32) × (Nat → Int32) × (Nat → Int32) × (Nat → Int32) × (Nat → Int64) × (Nat → Int64) := bd (upd sv 3 i3) (fun sv => bd (sv 4) (fun v1 => bd (if v1 < i3 then i3 else v1) (fun v2 => bd (upd sv 4 v2) (fun sv => bd (sv 4) (fun v3 => bd (sv 3) (fun v4 => (if v3 ≤ v4 then bd (xc_tput tv) (fun t5 => bd (t5) (fun tv => (sv, tv, bv, cv, f, g))) else bd (xc_tset tv i2) (fun t6 => bd (t6) (fun tv => (sv, tv, bv, cv, f, g))))))))))
set_option maxRecDepth 100000 in
def xc_sgoOn (n0 : Int32) (k0 : Int32) (g0 : Int32) (sv : Nat → Int32) (tv : Nat → Int32) (bv : Nat → Int32) (cv : Nat → Int32) (f : Nat → Int64) (g : Nat → Int64) (n1 : Int32) (n2 : Int32) : (Nat → Int32) × (Nat → Int32) × (Nat → Int32) × (Nat → Int32) × (Nat → Int64) × (Nat → Int64) := bd (sv 3) (fun v7 => bd (v7 + n1) (fun v8 => bd (xc_ttold tv v8 n2) (fun t9 => bd (t9) (fun tv => bd (xc_byBoard n0 k0 g0 sv tv bv cv f g) (fun t10 => bd (t10.1) (fun sv => bd (t10.2.1) (fun tv => bd (t10.2.2.1) (fun bv => bd (t10.2.2.2.1) (fun cv => bd (t10.2.2.2.2.1) (fun f => bd (t10.2.2.2.2.2.1) (fun g => bd (t10.2.2.2.2.2.2) (fun v11 => (if v11 = (0 : Int32) then xc_sgoOn_35 n0 k0 g0 n1 n2 sv tv bv f g cv n1 n2 v8 else bd (sv 3) (fun v12 => bd (xc_bgoOn bv f g v12 v8) (fun t13 => bd (t13.1) (fun bv => bd (t13.2.1) (fun f => bd (t13.2.2) (fun g => xc_sgoOn_35 n0 k0 g0 n1 n2 sv tv bv f g cv n1 n2 v8))))))))))))))))))
set_option maxHeartbeats 4000000 in
set_option maxRecDepth 100000 in
theorem s_sgoOn (l : Launch) (D : va_G) (cI cJ cZ cO : ClassId) (sz : Nat) (h0 h1 h2 h3 h4 h5 h6 h7 : Nat) (n0 k0 g0 : Int32) (sv tv bv cv : Nat → Int32) (f g : Nat → Int64) (n1 n2 : Int32) : Met l yX8_goOn (wa yX8_goOn cX8_goOn 4 none) ({ frames := 3, cells := 0, slots := 0, locals := 84 }) (va_Pc [.ref h0, .int n1, .int n2] (pw_s D cI cJ cZ cO sz [(h0, snC n0 k0 g0 sv h1 h2 h7), (h1, tmC tv), (h2, boC h3 h5 bv), (h3, mkC h4), (h4, .inl (cJ, 4, .inr (.inl f))), (h5, mkC h6), (h6, .inl (cJ, 4, .inr (.inl g))), (h7, cuC cv)])) (va_Qv (fun (_ : Unit) => True) (fun (_ : Unit) (t : State) => ∃ (sv2 tv2 bv2 cv2 : Nat → Int32) (f2 g2 : Nat → Int64), (sv2 = (xc_sgoOn n0 k0 g0 sv tv bv cv f g n1 n2).1 ∧ tv2 = (xc_sgoOn n0 k0 g0 sv tv bv cv f g n1 n2).2.1 ∧ bv2 = (xc_sgoOn n0 k0 g0 sv tv bv cv f g n1 n2).2.2.1 ∧ cv2 = (xc_sgoOn n0 k0 g0 sv tv bv cv f g n1 n2).2.2.2.1 ∧ f2 = (xc_sgoOn n0 k0 g0 sv tv bv cv f g n1 n2).2.2.2.2.1 ∧ g2 = (xc_sgoOn n0 k0 g0 sv tv bv cv f g n1 n2).2.2.2.2.2) ∧ pw_t D cI cJ cZ cO (va_A [(h0, snC n0 k0 g0 sv h1 h2 h7), (h1, tmC tv), (h2, boC h3 h5 bv), (h3, mkC h4), (h4, .inl (cJ, 4, .inr (.inl f))), (h5, mkC h6), (h6, .inl (cJ, 4, .inr (.inl g))), (h7, cuC cv)] sz) [(h0, snC n0 k0 g0 sv2 h1 h2 h7), (h1, tmC tv2), (h2, boC h3 h5 bv2), (h3, mkC h4), (h4, .inl (cJ, 4, .inr (.inl f2))), (h5, mkC h6), (h6, .inl (cJ, 4, .inr (.inl g2))), (h7, cuC cv2)] t) (va_A [(h0, snC n0 k0 g0 sv h1 h2 h7), (h1, tmC tv), (h2, boC h3 h5 bv), (h3, mkC h4), (h4, .inl (cJ, 4, .inr (.inl f))), (h5, mkC h6), (h6, .inl (cJ, 4, .inr (.inl g))), (h7, cuC cv)] sz)) 0 0 (va_A [(h0, snC n0 k0 g0 sv h1 h2 h7), (h1, tmC tv), (h2, boC h3 h5 bv), (h3, mkC h4), (h4, .inl (cJ, 4, .inr (.inl f))), (h5, mkC h6), (h6, .inl (cJ, 4, .inr (.inl g))), (h7, cuC cv)] sz) := by
  refine Met.ofW (cc := cX8_goOn) (maxL := 4) (ret := none) (by decide) rfl ?_
  intro p e s m args below meth c s₁ B hml hv
  obtain ⟨rfl, hsz, hP, hK, hD0, hN⟩ := hv
  have hx := B.exec
  have hb := B.bytes
  have hr := B.returns
  have hts := atoms_spec (ws := (wa yX8_goOn cX8_goOn 4 none)) B.pre
  have ha : ∀ w ∈ wsL_law, w.before _ s = true := fun w h => hts w (List.mem_cons_of_mem _ h)
  have hown : s.vm.findClass RX8 = some m.cls := findClass_of_methodNamed B.named
  have hlocks := B.notSynchronized
  subst hsz
  have hD := hD0.self (sz := s.heap.size)
  generalize hAe : va_A [(h0, snC n0 k0 g0 sv h1 h2 h7), (h1, tmC tv), (h2, boC h3 h5 bv), (h3, mkC h4), (h4, .inl (cJ, 4, .inr (.inl f))), (h5, mkC h6), (h6, .inl (cJ, 4, .inr (.inl g))), (h7, cuC cv)] s.heap.size = A at hD ⊢
  have hA : ∀ q : Nat, s.heap.size ≤ q → A q := fun q h => by rw [← hAe]; exact Or.inr h
  have hS : va_S A s.heap s.heap [] := va_S.rf
  have hP : va_P D vwCl [(h0, snC n0 k0 g0 sv h1 h2 h7), (h1, tmC tv), (h2, boC h3 h5 bv), (h3, mkC h4), (h4, .inl (cJ, 4, .inr (.inl f))), (h5, mkC h6), (h6, .inl (cJ, 4, .inr (.inl g))), (h7, cuC cv)] s.heap := hP
  have hl := lv_entry ([.ref h0, .int n1, .int n2]) (n := 4) (Nat.le_of_ble_eq_true rfl)
  rw [lg_entry_eq]
  generalize (lg_sl ([.ref h0, .int n1, .int n2]) ++ List.replicate (4 - (lg_sl ([.ref h0, .int n1, .int n2])).length) Slot.unset).toArray = ls at hl ⊢
  have hl : lv_has ls 4 [(0, .ref h0), (1, .int n1), (2, .int n2)] := hl
  obtain ⟨QP, hQP⟩ : ∃ y : State → Prop, y = (MQ below (va_Qv (fun (_ : Unit) => True) (fun (_ : Unit) (t : State) => ∃ (sv2 tv2 bv2 cv2 : Nat → Int32) (f2 g2 : Nat → Int64), (sv2 = (xc_sgoOn n0 k0 g0 sv tv bv cv f g n1 n2).1 ∧ tv2 = (xc_sgoOn n0 k0 g0 sv tv bv cv f g n1 n2).2.1 ∧ bv2 = (xc_sgoOn n0 k0 g0 sv tv bv cv f g n1 n2).2.2.1 ∧ cv2 = (xc_sgoOn n0 k0 g0 sv tv bv cv f g n1 n2).2.2.2.1 ∧ f2 = (xc_sgoOn n0 k0 g0 sv tv bv cv f g n1 n2).2.2.2.2.1 ∧ g2 = (xc_sgoOn n0 k0 g0 sv tv bv cv f g n1 n2).2.2.2.2.2) ∧ pw_t D cI cJ cZ cO A [(h0, snC n0 k0 g0 sv2 h1 h2 h7), (h1, tmC tv2), (h2, boC h3 h5 bv2), (h3, mkC h4), (h4, .inl (cJ, 4, .inr (.inl f2))), (h5, mkC h6), (h6, .inl (cJ, 4, .inr (.inl g2))), (h7, cuC cv2)] t) A) #[(.ref h0 : Value), (.int n1 : Value), (.int n2 : Value)] s 0 0 A) := ⟨_, rfl⟩
  obtain ⟨RES, hRES⟩ : ∃ y, y = (xc_sgoOn n0 k0 g0 sv tv bv cv f g n1 n2) := ⟨_, rfl⟩
  have J_35 : ∀ (sv : Nat → Int32) (tv : Nat → Int32) (bv : Nat → Int32) (f : Nat → Int64) (g : Nat → Int64) (cv : Nat → Int32) (H : Heap) (locs : List Loc), va_P D vwCl [(h0, snC n0 k0 g0 sv h1 h2 h7), (h1, tmC tv), (h2, boC h3 h5 bv), (h3, mkC h4), (h4, .inl (cJ, 4, .inr (.inl f))), (h5, mkC h6), (h6, .inl (cJ, 4, .inr (.inl g))), (h7, cuC cv)] H → va_D A [(h0, snC n0 k0 g0 sv h1 h2 h7), (h1, tmC tv), (h2, boC h3 h5 bv), (h3, mkC h4), (h4, .inl (cJ, 4, .inr (.inl f))), (h5, mkC h6), (h6, .inl (cJ, 4, .inr (.inl g))), (h7, cuC cv)] → va_S A s.heap H locs → ∀ (i1 : Int32) (i2 : Int32) (i3 : Int32) (ls : Array Slot), lv_has ls 4 [(0, .ref h0), (1, .int i1), (2, .int i2), (3, .int i3)] → RES = xc_sgoOn_35 n0 k0 g0 n1 n2 sv tv bv f g cv i1 i2 i3 → W p l e ({ frames := 3, cells := 0, slots := 0, locals := 84 }) s m #[(.ref h0 : Value), (.int n1 : Value), (.int n2 : Value)] below meth c H locs 0 0 QP (F0 m 35 ls []) := by
    intro sv tv bv f g cv H locs hP hD hS i1 i2 i3 ls hl hE
    unfold xc_sgoOn_35 at hE
    refine lv_aload_n hx hb dX8_goOn_35 rfl (lv_at hl 0 rfl) ?_
    refine lv_iload_n hx hb dX8_goOn_36 rfl (lv_at hl 3 rfl) ?_
    refine va_put (D := D) (ci := 8) (v := .int i3) (ty := .int) (C := RX8) (T := TX8) (N := 20) hx hb ha inlX8 tyX8 tyX8_ok nmX8 hown hK hP hD hS 0 rfl rfl 3 (by decide) (ha _ kf_X8_59) (fun _ h9 => h9) rfl (by decide +kernel) rfl rfl (Nat.le_of_ble_eq_true rfl) dX8_goOn_37 (fun H locs hP hD hS => ?_)
    have hP : va_P D vwCl [(h0, snC n0 k0 g0 (upd sv 3 i3) h1 h2 h7), (h1, tmC tv), (h2, boC h3 h5 bv), (h3, mkC h4), (h4, .inl (cJ, 4, .inr (.inl f))), (h5, mkC h6), (h6, .inl (cJ, 4, .inr (.inl g))), (h7, cuC cv)] H := hP
    have hD : va_D A [(h0, snC n0 k0 g0 (upd sv 3 i3) h1 h2 h7), (h1, tmC tv), (h2, boC h3 h5 bv), (h3, mkC h4), (h4, .inl (cJ, 4, .inr (.inl f))), (h5, mkC h6), (h6, .inl (cJ, 4, .inr (.inl g))), (h7, cuC cv)] := hD
    generalize hg_29 : upd sv 3 i3 = sv at hP hD
    have hE := bs_at hg_29 hE
    refine lv_aload_n hx hb dX8_goOn_40 rfl (lv_at hl 0 rfl) ?_
    refine lv_aload_n hx hb dX8_goOn_41 rfl (lv_at hl 0 rfl) ?_
    refine va_get (D := D) (ci := 8) (v := .int (sv 4)) (C := RX8) (T := TX8) (N := 20) hx hb ha inlX8 hown hK hP 0 rfl rfl 4 (by decide) (ha _ kf_X8_65) (fun _ h9 => h9) rfl dX8_goOn_42 ?_
    refine lv_topi (fun x_30 ex_30 => ?_)
    have hE := bd_at ex_30 hE
    refine lv_iload_n hx hb dX8_goOn_45 rfl (lv_at hl 3 rfl) ?_
    refine va_mmax hx hb (hml.trans hl.1.symm) hown (ha _ kl_X8_191) (ha _ kt_max) (ha _ kz_J9) (ha _ kd_max) (Nat.le_of_ble_eq_true rfl) (Nat.le_of_ble_eq_true rfl) (Nat.le_of_ble_eq_true rfl) (Nat.le_of_ble_eq_true rfl) dX8_goOn_46 ?_
    refine lv_topi (fun x_31 ex_31 => ?_)
    have hE := bd_at ex_31 hE
    refine va_put (D := D) (ci := 8) (v := .int x_31) (ty := .int) (C := RX8) (T := TX8) (N := 20) hx hb ha inlX8 tyX8 tyX8_ok nmX8 hown hK hP hD hS 0 rfl rfl 4 (by decide) (ha _ kf_X8_65) (fun _ h9 => h9) rfl (by decide +kernel) rfl rfl (Nat.le_of_ble_eq_true rfl) dX8_goOn_49 (fun H locs hP hD hS => ?_)
    have hP : va_P D vwCl [(h0, snC n0 k0 g0 (upd sv 4 x_31) h1 h2 h7), (h1, tmC tv), (h2, boC h3 h5 bv), (h3, mkC h4), (h4, .inl (cJ, 4, .inr (.inl f))), (h5, mkC h6), (h6, .inl (cJ, 4, .inr (.inl g))), (h7, cuC cv)] H := hP
    have hD : va_D A [(h0, snC n0 k0 g0 (upd sv 4 x_31) h1 h2 h7), (h1, tmC tv), (h2, boC h3 h5 bv), (h3, mkC h4), (h4, .inl (cJ, 4, .inr (.inl f))), (h5, mkC h6), (h6, .inl (cJ, 4, .inr (.inl g))), (h7, cuC cv)] := hD
    generalize hg_32 : upd sv 4 x_31 = sv at hP hD
    have hE := bs_at hg_32 hE
    refine lv_aload_n hx hb dX8_goOn_52 rfl (lv_at hl 0 rfl) ?_
    refine va_get (D := D) (ci := 8) (v := .int (sv 4)) (C := RX8) (T := TX8) (N := 20) hx hb ha inlX8 hown hK hP 0 rfl rfl 4 (by decide) (ha _ kf_X8_65) (fun _ h9 => h9) rfl dX8_goOn_53 ?_
    refine lv_topi (fun x_33 ex_33 => ?_)
    have hE := bd_at ex_33 hE
    refine lv_aload_n hx hb dX8_goOn_56 rfl (lv_at hl 0 rfl) ?_
    refine va_get (D := D) (ci := 8) (v := .int (sv 3)) (C := RX8) (T := TX8) (N := 20) hx hb ha inlX8 hown hK hP 0 rfl rfl 3 (by decide) (ha _ kf_X8_59) (fun _ h9 => h9) rfl dX8_goOn_57 ?_
    refine lv_topi (fun x_34 ex_34 => ?_)
    have hE := bd_at ex_34 hE
    refine lv_icmp_le (tgt := 74) hx hb dX8_goOn_60 (by decide) (fun c_35 => ?_) (fun c_35 => ?_)
    · have hE := hE.trans (if_pos c_35)
      refine lv_aload_n hx hb dX8_goOn_74 rfl (lv_at hl 0 rfl) ?_
      refine va_get (D := D) (ci := 8) (v := .ref h1) (C := RX8) (T := TX8) (N := 20) hx hb ha inlX8 hown hK hP 0 rfl rfl 17 (by decide) (ha _ kf_X8_28) (fun _ h9 => h9) rfl dX8_goOn_75 ?_
      have hPc := hP.sub (ws' := [(h1, tmC tv)]) [1] rfl
      have hDc := hD.sub (ws' := [(h1, tmC tv)]) [1] (by decide) rfl
      have hFc := va_free (wc := [(h1, tmC tv)]) hD hS hA [1] rfl
      refine va_callv (va_runV (As := []) (rest := []) ⟨hx, hb, hml, hown, ha⟩ (s_tput l D cI cJ cZ cO _ h1 tv) (cwV 0 ha (gaV kl_X8_111 km_X9_putOff ks_X9_putOff kz_X9 kd_X9_putOff) rfl rfl rfl (by decide +kernel) ⟨Nat.le_of_ble_eq_true rfl, Nat.le_of_ble_eq_true rfl⟩) ⟨pw_blind, va_recv hK hPc (ci := 9) (q0 := 0) rfl rfl, fun U hU hW => ⟨rfl, pw_start hU hW hPc hK hDc hN⟩⟩ rfl rfl hl.1 rfl (lv_room (Nat.le_of_ble_eq_true rfl)) dX8_goOn_78 ⟨Nat.le_of_ble_eq_true rfl, Nat.le_of_ble_eq_true rfl⟩) hS (fun q _ h => hFc q h) hFc (fun u t H1 locs ht hvm hw hB hz1 hk1 hS => ?_)
      obtain ⟨tv, hX0, hP1, hK1, hD1⟩ := hB
      have hE := bd_at rfl hE
      have hE := bd_at hX0 hE
      rw [ht] at hP1
      obtain ⟨hP, hD⟩ := va_join (wr := [(h0, snC n0 k0 g0 sv h1 h2 h7), (h2, boC h3 h5 bv), (h3, mkC h4), (h4, .inl (cJ, 4, .inr (.inl f))), (h5, mkC h6), (h6, .inl (cJ, 4, .inr (.inl g))), (h7, cuC cv)]) (w1 := [(h1, tmC tv)]) hP hD [1] [0, 2, 3, 4, 5, 6, 7] rfl rfl (by decide) (by decide) hk1 hFc hP1 hD1
      generalize H1 = H at hP hS ⊢
      have hP : va_P D vwCl [(h0, snC n0 k0 g0 sv h1 h2 h7), (h2, boC h3 h5 bv), (h3, mkC h4), (h4, .inl (cJ, 4, .inr (.inl f))), (h5, mkC h6), (h6, .inl (cJ, 4, .inr (.inl g))), (h7, cuC cv), (h1, tmC tv)] H := hP
      have hD : va_D A [(h0, snC n0 k0 g0 sv h1 h2 h7), (h2, boC h3 h5 bv), (h3, mkC h4), (h4, .inl (cJ, 4, .inr (.inl f))), (h5, mkC h6), (h6, .inl (cJ, 4, .inr (.inl g))), (h7, cuC cv), (h1, tmC tv)] := hD
      refine W.widen (k := 0) (n := 0) (Nat.le_of_ble_eq_true rfl) (Nat.le_of_ble_eq_true rfl) ?_
      rw [hQP]
      have hP9 := hP.sub (ws' := [(h0, snC n0 k0 g0 sv h1 h2 h7), (h1, tmC tv), (h2, boC h3 h5 bv), (h3, mkC h4), (h4, .inl (cJ, 4, .inr (.inl f))), (h5, mkC h6), (h6, .inl (cJ, 4, .inr (.inl g))), (h7, cuC cv)]) [0, 7, 1, 2, 3, 4, 5, 6] rfl
      have hD9 := hD.sub (ws' := [(h0, snC n0 k0 g0 sv h1 h2 h7), (h1, tmC tv), (h2, boC h3 h5 bv), (h3, mkC h4), (h4, .inl (cJ, 4, .inr (.inl f))), (h5, mkC h6), (h6, .inl (cJ, 4, .inr (.inl g))), (h7, cuC cv)]) [0, 7, 1, 2, 3, 4, 5, 6] (by decide) rfl
      exact W.vret hx hb hr (fun t ht hW => ⟨⟨(), rfl, trivial, ⟨sv, tv, bv, cv, f, g, ⟨(by rw [← hRES, hE]), (by rw [← hRES, hE]), (by rw [← hRES, hE]), (by rw [← hRES, hE]), (by rw [← hRES, hE]), (by rw [← hRES, hE])⟩, by rw [ht]; exact hP9, va_K.moved hW.alike hK, hD9⟩⟩, hS.F ht⟩) hS.2.2 dX8_goOn_81
    · have hE := hE.trans (if_neg c_35)
      refine lv_aload_n hx hb dX8_goOn_63 rfl (lv_at hl 0 rfl) ?_
      refine va_get (D := D) (ci := 8) (v := .ref h1) (C := RX8) (T := TX8) (N := 20) hx hb ha inlX8 hown hK hP 0 rfl rfl 17 (by decide) (ha _ kf_X8_28) (fun _ h9 => h9) rfl dX8_goOn_64 ?_
      refine lv_iload_n hx hb dX8_goOn_67 rfl (lv_at hl 2 rfl) ?_
      have hPc := hP.sub (ws' := [(h1, tmC tv)]) [1] rfl
      have hDc := hD.sub (ws' := [(h1, tmC tv)]) [1] (by decide) rfl
      have hFc := va_free (wc := [(h1, tmC tv)]) hD hS hA [1] rfl
      refine va_callv (va_runV (As := [.int i2]) (rest := []) ⟨hx, hb, hml, hown, ha⟩ (s_tset l D cI cJ cZ cO _ h1 tv i2) (cwV 1 ha (gaV kl_X8_209 km_X9_set ks_X9_set kz_X9 kd_X9_set) rfl rfl rfl (by decide +kernel) ⟨Nat.le_of_ble_eq_true rfl, Nat.le_of_ble_eq_true rfl⟩) ⟨pw_blind, va_recv hK hPc (ci := 9) (q0 := 0) rfl rfl, fun U hU hW => ⟨rfl, pw_start hU hW hPc hK hDc hN⟩⟩ rfl rfl hl.1 rfl (lv_room (Nat.le_of_ble_eq_true rfl)) dX8_goOn_68 ⟨Nat.le_of_ble_eq_true rfl, Nat.le_of_ble_eq_true rfl⟩) hS (fun q _ h => hFc q h) hFc (fun u t H1 locs ht hvm hw hB hz1 hk1 hS => ?_)
      obtain ⟨tv, hX0, hP1, hK1, hD1⟩ := hB
      have hE := bd_at rfl hE
      have hE := bd_at hX0 hE
      rw [ht] at hP1
      obtain ⟨hP, hD⟩ := va_join (wr := [(h0, snC n0 k0 g0 sv h1 h2 h7), (h2, boC h3 h5 bv), (h3, mkC h4), (h4, .inl (cJ, 4, .inr (.inl f))), (h5, mkC h6), (h6, .inl (cJ, 4, .inr (.inl g))), (h7, cuC cv)]) (w1 := [(h1, tmC tv)]) hP hD [1] [0, 2, 3, 4, 5, 6, 7] rfl rfl (by decide) (by decide) hk1 hFc hP1 hD1
      generalize H1 = H at hP hS ⊢
      have hP : va_P D vwCl [(h0, snC n0 k0 g0 sv h1 h2 h7), (h2, boC h3 h5 bv), (h3, mkC h4), (h4, .inl (cJ, 4, .inr (.inl f))), (h5, mkC h6), (h6, .inl (cJ, 4, .inr (.inl g))), (h7, cuC cv), (h1, tmC tv)] H := hP
      have hD : va_D A [(h0, snC n0 k0 g0 sv h1 h2 h7), (h2, boC h3 h5 bv), (h3, mkC h4), (h4, .inl (cJ, 4, .inr (.inl f))), (h5, mkC h6), (h6, .inl (cJ, 4, .inr (.inl g))), (h7, cuC cv), (h1, tmC tv)] := hD
      refine W.widen (k := 0) (n := 0) (Nat.le_of_ble_eq_true rfl) (Nat.le_of_ble_eq_true rfl) ?_
      refine lv_goto (tgt := 81) hx hb dX8_goOn_71 (by decide) ?_
      rw [hQP]
      have hP9 := hP.sub (ws' := [(h0, snC n0 k0 g0 sv h1 h2 h7), (h1, tmC tv), (h2, boC h3 h5 bv), (h3, mkC h4), (h4, .inl (cJ, 4, .inr (.inl f))), (h5, mkC h6), (h6, .inl (cJ, 4, .inr (.inl g))), (h7, cuC cv)]) [0, 7, 1, 2, 3, 4, 5, 6] rfl
      have hD9 := hD.sub (ws' := [(h0, snC n0 k0 g0 sv h1 h2 h7), (h1, tmC tv), (h2, boC h3 h5 bv), (h3, mkC h4), (h4, .inl (cJ, 4, .inr (.inl f))), (h5, mkC h6), (h6, .inl (cJ, 4, .inr (.inl g))), (h7, cuC cv)]) [0, 7, 1, 2, 3, 4, 5, 6] (by decide) rfl
      exact W.vret hx hb hr (fun t ht hW => ⟨⟨(), rfl, trivial, ⟨sv, tv, bv, cv, f, g, ⟨(by rw [← hRES, hE]), (by rw [← hRES, hE]), (by rw [← hRES, hE]), (by rw [← hRES, hE]), (by rw [← hRES, hE]), (by rw [← hRES, hE])⟩, by rw [ht]; exact hP9, va_K.moved hW.alike hK, hD9⟩⟩, hS.F ht⟩) hS.2.2 dX8_goOn_81
  rw [hQP] at J_35
  -- from the entry
  have hE := hRES
  unfold xc_sgoOn at hE
  refine lv_aload_n hx hb dX8_goOn_0 rfl (lv_at hl 0 rfl) ?_
  refine va_get (D := D) (ci := 8) (v := .int (sv 3)) (C := RX8) (T := TX8) (N := 20) hx hb ha inlX8 hown hK hP 0 rfl rfl 3 (by decide) (ha _ kf_X8_59) (fun _ h9 => h9) rfl dX8_goOn_1 ?_
  refine lv_topi (fun x_40 ex_40 => ?_)
  have hE := bd_at ex_40 hE
  refine lv_iload_n hx hb dX8_goOn_4 rfl (lv_at hl 1 rfl) ?_
  refine lv_iadd hx hb dX8_goOn_5 ?_
  refine lv_topi (fun x_41 ex_41 => ?_)
  have hE := bd_at ex_41 hE
  refine lv_istore_n (lv' := [(3, .int x_41), (0, .ref h0), (1, .int n1), (2, .int n2)]) hx hb dX8_goOn_6 rfl hl (by decide) rfl (fun ls hl => ?_)
  refine lv_aload_n hx hb dX8_goOn_7 rfl (lv_at hl 1 rfl) ?_
  refine va_get (D := D) (ci := 8) (v := .ref h1) (C := RX8) (T := TX8) (N := 20) hx hb ha inlX8 hown hK hP 0 rfl rfl 17 (by decide) (ha _ kf_X8_28) (fun _ h9 => h9) rfl dX8_goOn_8 ?_
  refine lv_iload_n hx hb dX8_goOn_11 rfl (lv_at hl 0 rfl) ?_
  refine lv_iload_n hx hb dX8_goOn_12 rfl (lv_at hl 3 rfl) ?_
  have hPc := hP.sub (ws' := [(h1, tmC tv)]) [1] rfl
  have hDc := hD.sub (ws' := [(h1, tmC tv)]) [1] (by decide) rfl
  have hFc := va_free (wc := [(h1, tmC tv)]) hD hS hA [1] rfl
  refine va_callv (va_runV (As := [.int x_41, .int n2]) (rest := []) ⟨hx, hb, hml, hown, ha⟩ (s_ttold l D cI cJ cZ cO _ h1 tv x_41 n2) (cwV 2 ha (gaV kl_X8_212 km_X9_noteTold ks_X9_noteTold kz_X9 kd_X9_noteTold) rfl rfl rfl (by decide +kernel) ⟨Nat.le_of_ble_eq_true rfl, Nat.le_of_ble_eq_true rfl⟩) ⟨pw_blind, va_recv hK hPc (ci := 9) (q0 := 0) rfl rfl, fun U hU hW => ⟨rfl, pw_start hU hW hPc hK hDc hN⟩⟩ rfl rfl hl.1 rfl (lv_room (Nat.le_of_ble_eq_true rfl)) dX8_goOn_13 ⟨Nat.le_of_ble_eq_true rfl, Nat.le_of_ble_eq_true rfl⟩) hS (fun q _ h => hFc q h) hFc (fun u t H1 locs ht hvm hw hB hz1 hk1 hS => ?_)
  obtain ⟨tv, hX0, hP1, hK1, hD1⟩ := hB
  have hE := bd_at rfl hE
  have hE := bd_at hX0 hE
  rw [ht] at hP1
  obtain ⟨hP, hD⟩ := va_join (wr := [(h0, snC n0 k0 g0 sv h1 h2 h7), (h2, boC h3 h5 bv), (h3, mkC h4), (h4, .inl (cJ, 4, .inr (.inl f))), (h5, mkC h6), (h6, .inl (cJ, 4, .inr (.inl g))), (h7, cuC cv)]) (w1 := [(h1, tmC tv)]) hP hD [1] [0, 2, 3, 4, 5, 6, 7] rfl rfl (by decide) (by decide) hk1 hFc hP1 hD1
  generalize H1 = H at hP hS ⊢
  have hP : va_P D vwCl [(h0, snC n0 k0 g0 sv h1 h2 h7), (h2, boC h3 h5 bv), (h3, mkC h4), (h4, .inl (cJ, 4, .inr (.inl f))), (h5, mkC h6), (h6, .inl (cJ, 4, .inr (.inl g))), (h7, cuC cv), (h1, tmC tv)] H := hP
  have hD : va_D A [(h0, snC n0 k0 g0 sv h1 h2 h7), (h2, boC h3 h5 bv), (h3, mkC h4), (h4, .inl (cJ, 4, .inr (.inl f))), (h5, mkC h6), (h6, .inl (cJ, 4, .inr (.inl g))), (h7, cuC cv), (h1, tmC tv)] := hD
  refine W.widen (k := 0) (n := 0) (Nat.le_of_ble_eq_true rfl) (Nat.le_of_ble_eq_true rfl) ?_
  refine lv_aload_n hx hb dX8_goOn_16 rfl (lv_at hl 1 rfl) ?_
  have hPc := hP.sub (ws' := [(h0, snC n0 k0 g0 sv h1 h2 h7), (h1, tmC tv), (h2, boC h3 h5 bv), (h3, mkC h4), (h4, .inl (cJ, 4, .inr (.inl f))), (h5, mkC h6), (h6, .inl (cJ, 4, .inr (.inl g))), (h7, cuC cv)]) [0, 7, 1, 2, 3, 4, 5, 6] rfl
  have hDc := hD.sub (ws' := [(h0, snC n0 k0 g0 sv h1 h2 h7), (h1, tmC tv), (h2, boC h3 h5 bv), (h3, mkC h4), (h4, .inl (cJ, 4, .inr (.inl f))), (h5, mkC h6), (h6, .inl (cJ, 4, .inr (.inl g))), (h7, cuC cv)]) [0, 7, 1, 2, 3, 4, 5, 6] (by decide) rfl
  have hFc := va_free (wc := [(h0, snC n0 k0 g0 sv h1 h2 h7), (h1, tmC tv), (h2, boC h3 h5 bv), (h3, mkC h4), (h4, .inl (cJ, 4, .inr (.inl f))), (h5, mkC h6), (h6, .inl (cJ, 4, .inr (.inl g))), (h7, cuC cv)]) hD hS hA [0, 7, 1, 2, 3, 4, 5, 6] rfl
  refine va_calli (va_runV (As := []) (rest := []) ⟨hx, hb, hml, hown, ha⟩ (s_byBoard l D cI cJ cZ cO _ h0 h1 h2 h3 h4 h5 h6 h7 n0 k0 g0 sv tv bv cv f g) (cwV 0 ha (gaV kl_X8_171 km_X8_goesByBoard ks_X8_goesByBoard kz_X8 kd_X8_goesByBoard) rfl rfl rfl (by decide +kernel) ⟨Nat.le_of_ble_eq_true rfl, Nat.le_of_ble_eq_true rfl⟩) ⟨pw_blind, va_recv hK hPc (ci := 8) (q0 := 0) rfl rfl, fun U hU hW => ⟨rfl, pw_start hU hW hPc hK hDc hN⟩⟩ rfl rfl hl.1 rfl (lv_room (Nat.le_of_ble_eq_true rfl)) dX8_goOn_17 ⟨Nat.le_of_ble_eq_true rfl, Nat.le_of_ble_eq_true rfl⟩) hS (fun q _ h => hFc q h) hFc (fun r_44 u t H1 locs ht hvm hw hB hz1 hk1 hS => ?_)
  obtain ⟨sv, tv, bv, cv, f, g, ⟨hX0, hX1, hX2, hX3, hX4, hX5⟩, hP1, hK1, hD1⟩ := hB
  have hE := bd_at rfl hE
  have hE := bd_at hX0 hE
  have hE := bd_at hX1 hE
  have hE := bd_at hX2 hE
  have hE := bd_at hX3 hE
  have hE := bd_at hX4 hE
  have hE := bd_at hX5 hE
  have hE := bd_at hw.2 hE
  rw [ht] at hP1
  obtain ⟨hP, hD⟩ := va_join (wr := []) (w1 := [(h0, snC n0 k0 g0 sv h1 h2 h7), (h1, tmC tv), (h2, boC h3 h5 bv), (h3, mkC h4), (h4, .inl (cJ, 4, .inr (.inl f))), (h5, mkC h6), (h6, .inl (cJ, 4, .inr (.inl g))), (h7, cuC cv)]) hP hD [0, 7, 1, 2, 3, 4, 5, 6] [] rfl rfl (by decide) (by decide) hk1 hFc hP1 hD1
  generalize H1 = H at hP hS ⊢
  have hP : va_P D vwCl [(h0, snC n0 k0 g0 sv h1 h2 h7), (h1, tmC tv), (h2, boC h3 h5 bv), (h3, mkC h4), (h4, .inl (cJ, 4, .inr (.inl f))), (h5, mkC h6), (h6, .inl (cJ, 4, .inr (.inl g))), (h7, cuC cv)] H := hP
  have hD : va_D A [(h0, snC n0 k0 g0 sv h1 h2 h7), (h1, tmC tv), (h2, boC h3 h5 bv), (h3, mkC h4), (h4, .inl (cJ, 4, .inr (.inl f))), (h5, mkC h6), (h6, .inl (cJ, 4, .inr (.inl g))), (h7, cuC cv)] := hD
  refine W.widen (k := 0) (n := 0) (Nat.le_of_ble_eq_true rfl) (Nat.le_of_ble_eq_true rfl) ?_
  have hr_44 := hw.1
  refine lv_if_eq (tgt := 35) hx hb dX8_goOn_20 (by decide) (fun c_51 => ?_) (fun c_51 => ?_)
  · have hE := hE.trans (if_pos c_51)
    exact J_35 sv tv bv f g cv _ _ hP hD hS n1 n2 x_41 _ (lv_sub hl [1, 2, 3, 0] rfl) hE
  · have hE := hE.trans (if_neg c_51)
    refine lv_aload_n hx hb dX8_goOn_23 rfl (lv_at hl 1 rfl) ?_
    refine va_get (D := D) (ci := 8) (v := .ref h2) (C := RX8) (T := TX8) (N := 20) hx hb ha inlX8 hown hK hP 0 rfl rfl 18 (by decide) (ha _ kf_X8_35) (fun _ h9 => h9) rfl dX8_goOn_24 ?_
    refine lv_aload_n hx hb dX8_goOn_27 rfl (lv_at hl 1 rfl) ?_
    refine va_get (D := D) (ci := 8) (v := .int (sv 3)) (C := RX8) (T := TX8) (N := 20) hx hb ha inlX8 hown hK hP 0 rfl rfl 3 (by decide) (ha _ kf_X8_59) (fun _ h9 => h9) rfl dX8_goOn_28 ?_
    refine lv_topi (fun x_52 ex_52 => ?_)
    have hE := bd_at ex_52 hE
    refine lv_iload_n hx hb dX8_goOn_31 rfl (lv_at hl 0 rfl) ?_
    have hPc := hP.sub (ws' := [(h2, boC h3 h5 bv), (h3, mkC h4), (h4, .inl (cJ, 4, .inr (.inl f))), (h5, mkC h6), (h6, .inl (cJ, 4, .inr (.inl g)))]) [2, 3, 4, 5, 6] rfl
    have hDc := hD.sub (ws' := [(h2, boC h3 h5 bv), (h3, mkC h4), (h4, .inl (cJ, 4, .inr (.inl f))), (h5, mkC h6), (h6, .inl (cJ, 4, .inr (.inl g)))]) [2, 3, 4, 5, 6] (by decide) rfl
    have hFc := va_free (wc := [(h2, boC h3 h5 bv), (h3, mkC h4), (h4, .inl (cJ, 4, .inr (.inl f))), (h5, mkC h6), (h6, .inl (cJ, 4, .inr (.inl g)))]) hD hS hA [2, 3, 4, 5, 6] rfl
    refine va_callv (va_runV (As := [.int x_52, .int x_41]) (rest := []) ⟨hx, hb, hml, hown, ha⟩ (s_bgoOn l D cI cJ cZ cO _ h2 h3 h4 h5 h6 bv f g x_52 x_41) (cwV 2 ha (gaV kl_X8_215 km_X0_goOn ks_X0_goOn kz_X0 kd_X0_goOn) rfl rfl rfl (by decide +kernel) ⟨Nat.le_of_ble_eq_true rfl, Nat.le_of_ble_eq_true rfl⟩) ⟨pw_blind, va_recv hK hPc (ci := 0) (q0 := 0) rfl rfl, fun U hU hW => ⟨rfl, pw_start hU hW hPc hK hDc hN⟩⟩ rfl rfl hl.1 rfl (lv_room (Nat.le_of_ble_eq_true rfl)) dX8_goOn_32 ⟨Nat.le_of_ble_eq_true rfl, Nat.le_of_ble_eq_true rfl⟩) hS (fun q _ h => hFc q h) hFc (fun u t H1 locs ht hvm hw hB hz1 hk1 hS => ?_)
    obtain ⟨bv, f, g, ⟨hX0, hX1, hX2⟩, hP1, hK1, hD1⟩ := hB
    have hE := bd_at rfl hE
    have hE := bd_at hX0 hE
    have hE := bd_at hX1 hE
    have hE := bd_at hX2 hE
    rw [ht] at hP1
    obtain ⟨hP, hD⟩ := va_join (wr := [(h0, snC n0 k0 g0 sv h1 h2 h7), (h1, tmC tv), (h7, cuC cv)]) (w1 := [(h2, boC h3 h5 bv), (h3, mkC h4), (h4, .inl (cJ, 4, .inr (.inl f))), (h5, mkC h6), (h6, .inl (cJ, 4, .inr (.inl g)))]) hP hD [2, 3, 4, 5, 6] [0, 1, 7] rfl rfl (by decide) (by decide) hk1 hFc hP1 hD1
    generalize H1 = H at hP hS ⊢
    have hP : va_P D vwCl [(h0, snC n0 k0 g0 sv h1 h2 h7), (h1, tmC tv), (h7, cuC cv), (h2, boC h3 h5 bv), (h3, mkC h4), (h4, .inl (cJ, 4, .inr (.inl f))), (h5, mkC h6), (h6, .inl (cJ, 4, .inr (.inl g)))] H := hP
    have hD : va_D A [(h0, snC n0 k0 g0 sv h1 h2 h7), (h1, tmC tv), (h7, cuC cv), (h2, boC h3 h5 bv), (h3, mkC h4), (h4, .inl (cJ, 4, .inr (.inl f))), (h5, mkC h6), (h6, .inl (cJ, 4, .inr (.inl g)))] := hD
    refine W.widen (k := 0) (n := 0) (Nat.le_of_ble_eq_true rfl) (Nat.le_of_ble_eq_true rfl) ?_
    exact J_35 sv tv bv f g cv _ _ (hP.sub (ws' := [(h0, snC n0 k0 g0 sv h1 h2 h7), (h1, tmC tv), (h2, boC h3 h5 bv), (h3, mkC h4), (h4, .inl (cJ, 4, .inr (.inl f))), (h5, mkC h6), (h6, .inl (cJ, 4, .inr (.inl g))), (h7, cuC cv)]) [0, 1, 3, 4, 5, 6, 7, 2] rfl) (hD.sub (ws' := [(h0, snC n0 k0 g0 sv h1 h2 h7), (h1, tmC tv), (h2, boC h3 h5 bv), (h3, mkC h4), (h4, .inl (cJ, 4, .inr (.inl f))), (h5, mkC h6), (h6, .inl (cJ, 4, .inr (.inl g))), (h7, cuC cv)]) [0, 1, 3, 4, 5, 6, 7, 2] (by decide) rfl) hS n1 n2 x_41 _ (lv_sub hl [1, 2, 3, 0] rfl) hE

set_option maxRecDepth 100000 in
def xc_sgrow (n0 : Int32) (k0 : Int32) (g0 : Int32) (sv : Nat → Int32) (tv : Nat → Int32) (bv : Nat → Int32) (cv : Nat → Int32) (f : Nat → Int64) (g : Nat → Int64) (n1 : Int32) : (Nat → Int32) × (Nat → Int32) × (Nat → Int32) × (Nat → Int32) × (Nat → Int64) × (Nat → Int64) := bd (sv 6) (fun v1 => bd (sv 8) (fun v2 => (if v2 ≤ v1 then (if k0 = (2 : Int32) then bd (sv 6) (fun v10 => bd (tv 1) (fun v11 => bd (xc_cgrow cv v10 v11 n1) (fun t12 => bd (t12.1) (fun cv => bd (t12.2) (fun v13 => bd (xc_setCwnd n0 k0 g0 sv tv bv cv f g v13) (fun t14 => bd (t14.1) (fun sv => bd (t14.2.1) (fun tv => bd (t14.2.2.1) (fun bv => bd (t14.2.2.2.1) (fun cv => bd (t14.2.2.2.2.1) (fun f => bd (t14.2.2.2.2.2) (fun g => (sv, tv, bv, cv, f, g))))))))))))) else bd (sv 6) (fun v3 => bd (sv 6) (fun v4 => bd (if (1 : Int32) < v4 then v4 else (1 : Int32)) (fun v5 => bd ((1048576 : Int32) / v5) (fun v6 => bd (if (1 : Int32) < v6 then v6 else (1 : Int32)) (fun v7 => bd (v3 + v7) (fun v8 => bd (xc_setCwnd n0 k0 g0 sv tv bv cv f g v8) (fun t9 => bd (t9.1) (fun sv => bd (t9.2.1) (fun tv => bd (t9.2.2.1) (fun bv => bd (t9.2.2.2.1) (fun cv => bd (t9.2.2.2.2.1) (fun f => bd (t9.2.2.2.2.2) (fun g => (sv, tv, bv, cv, f, g))))))))))))))) else bd (sv 6) (fun v15 => bd (v15 + (1024 : Int32)) (fun v16 => bd (xc_setCwnd n0 k0 g0 sv tv bv cv f g v16) (fun t17 => bd (t17.1) (fun sv => bd (t17.2.1) (fun tv => bd (t17.2.2.1) (fun bv => bd (t17.2.2.2.1) (fun cv => bd (t17.2.2.2.2.1) (fun f => bd (t17.2.2.2.2.2) (fun g => (sv, tv, bv, cv, f, g)))))))))))))
set_option maxHeartbeats 4000000 in
set_option maxRecDepth 100000 in
theorem s_sgrow (l : Launch) (D : va_G) (cI cJ cZ cO : ClassId) (sz : Nat) (h0 h1 h2 h3 h4 h5 h6 h7 : Nat) (n0 k0 g0 : Int32) (sv tv bv cv : Nat → Int32) (f g : Nat → Int64) (n1 : Int32) : Met l yX8_grow (wa yX8_grow cX8_grow 2 none) ({ frames := 3, cells := 0, slots := 0, locals := 94 }) (va_Pc [.ref h0, .int n1] (pw_s D cI cJ cZ cO sz [(h0, snC n0 k0 g0 sv h1 h2 h7), (h1, tmC tv), (h2, boC h3 h5 bv), (h3, mkC h4), (h4, .inl (cJ, 4, .inr (.inl f))), (h5, mkC h6), (h6, .inl (cJ, 4, .inr (.inl g))), (h7, cuC cv)])) (va_Qv (fun (_ : Unit) => True) (fun (_ : Unit) (t : State) => ∃ (sv2 tv2 bv2 cv2 : Nat → Int32) (f2 g2 : Nat → Int64), (sv2 = (xc_sgrow n0 k0 g0 sv tv bv cv f g n1).1 ∧ tv2 = (xc_sgrow n0 k0 g0 sv tv bv cv f g n1).2.1 ∧ bv2 = (xc_sgrow n0 k0 g0 sv tv bv cv f g n1).2.2.1 ∧ cv2 = (xc_sgrow n0 k0 g0 sv tv bv cv f g n1).2.2.2.1 ∧ f2 = (xc_sgrow n0 k0 g0 sv tv bv cv f g n1).2.2.2.2.1 ∧ g2 = (xc_sgrow n0 k0 g0 sv tv bv cv f g n1).2.2.2.2.2) ∧ pw_t D cI cJ cZ cO (va_A [(h0, snC n0 k0 g0 sv h1 h2 h7), (h1, tmC tv), (h2, boC h3 h5 bv), (h3, mkC h4), (h4, .inl (cJ, 4, .inr (.inl f))), (h5, mkC h6), (h6, .inl (cJ, 4, .inr (.inl g))), (h7, cuC cv)] sz) [(h0, snC n0 k0 g0 sv2 h1 h2 h7), (h1, tmC tv2), (h2, boC h3 h5 bv2), (h3, mkC h4), (h4, .inl (cJ, 4, .inr (.inl f2))), (h5, mkC h6), (h6, .inl (cJ, 4, .inr (.inl g2))), (h7, cuC cv2)] t) (va_A [(h0, snC n0 k0 g0 sv h1 h2 h7), (h1, tmC tv), (h2, boC h3 h5 bv), (h3, mkC h4), (h4, .inl (cJ, 4, .inr (.inl f))), (h5, mkC h6), (h6, .inl (cJ, 4, .inr (.inl g))), (h7, cuC cv)] sz)) 0 0 (va_A [(h0, snC n0 k0 g0 sv h1 h2 h7), (h1, tmC tv), (h2, boC h3 h5 bv), (h3, mkC h4), (h4, .inl (cJ, 4, .inr (.inl f))), (h5, mkC h6), (h6, .inl (cJ, 4, .inr (.inl g))), (h7, cuC cv)] sz) := by
  refine Met.ofW (cc := cX8_grow) (maxL := 2) (ret := none) (by decide) rfl ?_
  intro p e s m args below meth c s₁ B hml hv
  obtain ⟨rfl, hsz, hP, hK, hD0, hN⟩ := hv
  have hx := B.exec
  have hb := B.bytes
  have hr := B.returns
  have hts := atoms_spec (ws := (wa yX8_grow cX8_grow 2 none)) B.pre
  have ha : ∀ w ∈ wsL_law, w.before _ s = true := fun w h => hts w (List.mem_cons_of_mem _ h)
  have hown : s.vm.findClass RX8 = some m.cls := findClass_of_methodNamed B.named
  have hlocks := B.notSynchronized
  subst hsz
  have hD := hD0.self (sz := s.heap.size)
  generalize hAe : va_A [(h0, snC n0 k0 g0 sv h1 h2 h7), (h1, tmC tv), (h2, boC h3 h5 bv), (h3, mkC h4), (h4, .inl (cJ, 4, .inr (.inl f))), (h5, mkC h6), (h6, .inl (cJ, 4, .inr (.inl g))), (h7, cuC cv)] s.heap.size = A at hD ⊢
  have hA : ∀ q : Nat, s.heap.size ≤ q → A q := fun q h => by rw [← hAe]; exact Or.inr h
  have hS : va_S A s.heap s.heap [] := va_S.rf
  have hP : va_P D vwCl [(h0, snC n0 k0 g0 sv h1 h2 h7), (h1, tmC tv), (h2, boC h3 h5 bv), (h3, mkC h4), (h4, .inl (cJ, 4, .inr (.inl f))), (h5, mkC h6), (h6, .inl (cJ, 4, .inr (.inl g))), (h7, cuC cv)] s.heap := hP
  have hl := lv_entry ([.ref h0, .int n1]) (n := 2) (Nat.le_of_ble_eq_true rfl)
  rw [lg_entry_eq]
  generalize (lg_sl ([.ref h0, .int n1]) ++ List.replicate (2 - (lg_sl ([.ref h0, .int n1])).length) Slot.unset).toArray = ls at hl ⊢
  have hl : lv_has ls 2 [(0, .ref h0), (1, .int n1)] := hl
  obtain ⟨QP, hQP⟩ : ∃ y : State → Prop, y = (MQ below (va_Qv (fun (_ : Unit) => True) (fun (_ : Unit) (t : State) => ∃ (sv2 tv2 bv2 cv2 : Nat → Int32) (f2 g2 : Nat → Int64), (sv2 = (xc_sgrow n0 k0 g0 sv tv bv cv f g n1).1 ∧ tv2 = (xc_sgrow n0 k0 g0 sv tv bv cv f g n1).2.1 ∧ bv2 = (xc_sgrow n0 k0 g0 sv tv bv cv f g n1).2.2.1 ∧ cv2 = (xc_sgrow n0 k0 g0 sv tv bv cv f g n1).2.2.2.1 ∧ f2 = (xc_sgrow n0 k0 g0 sv tv bv cv f g n1).2.2.2.2.1 ∧ g2 = (xc_sgrow n0 k0 g0 sv tv bv cv f g n1).2.2.2.2.2) ∧ pw_t D cI cJ cZ cO A [(h0, snC n0 k0 g0 sv2 h1 h2 h7), (h1, tmC tv2), (h2, boC h3 h5 bv2), (h3, mkC h4), (h4, .inl (cJ, 4, .inr (.inl f2))), (h5, mkC h6), (h6, .inl (cJ, 4, .inr (.inl g2))), (h7, cuC cv2)] t) A) #[(.ref h0 : Value), (.int n1 : Value)] s 0 0 A) := ⟨_, rfl⟩
  obtain ⟨RES, hRES⟩ : ∃ y, y = (xc_sgrow n0 k0 g0 sv tv bv cv f g n1) := ⟨_, rfl⟩
  -- from the entry
  have hE := hRES
  unfold xc_sgrow at hE
  refine lv_aload_n hx hb dX8_grow_0 rfl (lv_at hl 0 rfl) ?_
  refine va_get (D := D) (ci := 8) (v := .int (sv 6)) (C := RX8) (T := TX8) (N := 20) hx hb ha inlX8 hown hK hP 0 rfl rfl 6 (by decide) (ha _ kf_X8_9) (fun _ h9 => h9) rfl dX8_grow_1 ?_
  refine lv_topi (fun x_38 ex_38 => ?_)
  have hE := bd_at ex_38 hE
  refine lv_aload_n hx hb dX8_grow_4 rfl (lv_at hl 0 rfl) ?_
  refine va_get (D := D) (ci := 8) (v := .int (sv 8)) (C := RX8) (T := TX8) (N := 20) hx hb ha inlX8 hown hK hP 0 rfl rfl 8 (by decide) (ha _ kf_X8_19) (fun _ h9 => h9) rfl dX8_grow_5 ?_
  refine lv_topi (fun x_39 ex_39 => ?_)
  have hE := bd_at ex_39 hE
  refine lv_icmp_ge (tgt := 26) hx hb dX8_grow_8 (by decide) (fun c_40 => ?_) (fun c_40 => ?_)
  · have hE := hE.trans (if_pos c_40)
    refine lv_aload_n hx hb dX8_grow_26 rfl (lv_at hl 0 rfl) ?_
    refine va_get (D := D) (ci := 8) (v := .int k0) (C := RX8) (T := TX8) (N := 20) hx hb ha inlX8 hown hK hP 0 rfl rfl 1 (by decide) (ha _ kf_X8_49) (fun _ h9 => h9) rfl dX8_grow_27 ?_
    refine lv_iconst (v := 2) hx hb dX8_grow_30 (by decide) ?_
    refine lv_icmp_ne (tgt := 60) hx hb dX8_grow_31 (by decide) (fun c_41 => ?_) (fun c_41 => ?_)
    · have hE := hE.trans (if_neg c_41)
      refine lv_aload_n hx hb dX8_grow_60 rfl (lv_at hl 0 rfl) ?_
      refine lv_aload_n hx hb dX8_grow_61 rfl (lv_at hl 0 rfl) ?_
      refine va_get (D := D) (ci := 8) (v := .int (sv 6)) (C := RX8) (T := TX8) (N := 20) hx hb ha inlX8 hown hK hP 0 rfl rfl 6 (by decide) (ha _ kf_X8_9) (fun _ h9 => h9) rfl dX8_grow_62 ?_
      refine lv_topi (fun x_42 ex_42 => ?_)
      have hE := bd_at ex_42 hE
      refine lv_iconst (v := 1) hx hb dX8_grow_65 (by decide) ?_
      refine lv_ldc (v := 1048576) hx hb hown (ha _ kk_X8_18) dX8_grow_66 ?_
      refine lv_iconst (v := 1) hx hb dX8_grow_68 (by decide) ?_
      refine lv_aload_n hx hb dX8_grow_69 rfl (lv_at hl 0 rfl) ?_
      refine va_get (D := D) (ci := 8) (v := .int (sv 6)) (C := RX8) (T := TX8) (N := 20) hx hb ha inlX8 hown hK hP 0 rfl rfl 6 (by decide) (ha _ kf_X8_9) (fun _ h9 => h9) rfl dX8_grow_70 ?_
      refine lv_topi (fun x_43 ex_43 => ?_)
      have hE := bd_at ex_43 hE
      refine va_mmax hx hb (hml.trans hl.1.symm) hown (ha _ kl_X8_191) (ha _ kt_max) (ha _ kz_J9) (ha _ kd_max) (Nat.le_of_ble_eq_true rfl) (Nat.le_of_ble_eq_true rfl) (Nat.le_of_ble_eq_true rfl) (Nat.le_of_ble_eq_true rfl) dX8_grow_73 ?_
      refine lv_topi (fun x_44 ex_44 => ?_)
      have hE := bd_at ex_44 hE
      have nz_x_44 : ¬ x_44 = 0 := sw_mx1 ex_44
      refine lv_idiv hx hb dX8_grow_76 nz_x_44 ?_
      refine lv_topi (fun x_45 ex_45 => ?_)
      have hE := bd_at ex_45 hE
      refine va_mmax hx hb (hml.trans hl.1.symm) hown (ha _ kl_X8_191) (ha _ kt_max) (ha _ kz_J9) (ha _ kd_max) (Nat.le_of_ble_eq_true rfl) (Nat.le_of_ble_eq_true rfl) (Nat.le_of_ble_eq_true rfl) (Nat.le_of_ble_eq_true rfl) dX8_grow_77 ?_
      refine lv_topi (fun x_46 ex_46 => ?_)
      have hE := bd_at ex_46 hE
      have nz_x_46 : ¬ x_46 = 0 := sw_mx1 ex_46
      refine lv_iadd hx hb dX8_grow_80 ?_
      refine lv_topi (fun x_47 ex_47 => ?_)
      have hE := bd_at ex_47 hE
      have hPc := hP.sub (ws' := [(h0, snC n0 k0 g0 sv h1 h2 h7), (h1, tmC tv), (h2, boC h3 h5 bv), (h3, mkC h4), (h4, .inl (cJ, 4, .inr (.inl f))), (h5, mkC h6), (h6, .inl (cJ, 4, .inr (.inl g))), (h7, cuC cv)]) [0, 1, 2, 3, 4, 5, 6, 7] rfl
      have hDc := hD.sub (ws' := [(h0, snC n0 k0 g0 sv h1 h2 h7), (h1, tmC tv), (h2, boC h3 h5 bv), (h3, mkC h4), (h4, .inl (cJ, 4, .inr (.inl f))), (h5, mkC h6), (h6, .inl (cJ, 4, .inr (.inl g))), (h7, cuC cv)]) [0, 1, 2, 3, 4, 5, 6, 7] (by decide) rfl
      have hFc := va_free (wc := [(h0, snC n0 k0 g0 sv h1 h2 h7), (h1, tmC tv), (h2, boC h3 h5 bv), (h3, mkC h4), (h4, .inl (cJ, 4, .inr (.inl f))), (h5, mkC h6), (h6, .inl (cJ, 4, .inr (.inl g))), (h7, cuC cv)]) hD hS hA [0, 1, 2, 3, 4, 5, 6, 7] rfl
      refine va_callv (va_runV (As := [.int x_47]) (rest := []) ⟨hx, hb, hml, hown, ha⟩ (s_setCwnd l D cI cJ cZ cO _ h0 h1 h2 h3 h4 h5 h6 h7 n0 k0 g0 sv tv bv cv f g x_47) (cwV 1 ha (gaV kl_X8_219 km_X8_setCwnd ks_X8_setCwnd kz_X8 kd_X8_setCwnd) rfl rfl rfl (by decide +kernel) ⟨Nat.le_of_ble_eq_true rfl, Nat.le_of_ble_eq_true rfl⟩) ⟨pw_blind, va_recv hK hPc (ci := 8) (q0 := 0) rfl rfl, fun U hU hW => ⟨rfl, pw_start hU hW hPc hK hDc hN⟩⟩ rfl rfl hl.1 rfl (lv_room (Nat.le_of_ble_eq_true rfl)) dX8_grow_81 ⟨Nat.le_of_ble_eq_true rfl, Nat.le_of_ble_eq_true rfl⟩) hS (fun q _ h => hFc q h) hFc (fun u t H1 locs ht hvm hw hB hz1 hk1 hS => ?_)
      obtain ⟨sv, tv, bv, cv, f, g, ⟨hX0, hX1, hX2, hX3, hX4, hX5⟩, hP1, hK1, hD1⟩ := hB
      have hE := bd_at rfl hE
      have hE := bd_at hX0 hE
      have hE := bd_at hX1 hE
      have hE := bd_at hX2 hE
      have hE := bd_at hX3 hE
      have hE := bd_at hX4 hE
      have hE := bd_at hX5 hE
      rw [ht] at hP1
      obtain ⟨hP, hD⟩ := va_join (wr := []) (w1 := [(h0, snC n0 k0 g0 sv h1 h2 h7), (h1, tmC tv), (h2, boC h3 h5 bv), (h3, mkC h4), (h4, .inl (cJ, 4, .inr (.inl f))), (h5, mkC h6), (h6, .inl (cJ, 4, .inr (.inl g))), (h7, cuC cv)]) hP hD [0, 1, 2, 3, 4, 5, 6, 7] [] rfl rfl (by decide) (by decide) hk1 hFc hP1 hD1
      generalize H1 = H at hP hS ⊢
      have hP : va_P D vwCl [(h0, snC n0 k0 g0 sv h1 h2 h7), (h1, tmC tv), (h2, boC h3 h5 bv), (h3, mkC h4), (h4, .inl (cJ, 4, .inr (.inl f))), (h5, mkC h6), (h6, .inl (cJ, 4, .inr (.inl g))), (h7, cuC cv)] H := hP
      have hD : va_D A [(h0, snC n0 k0 g0 sv h1 h2 h7), (h1, tmC tv), (h2, boC h3 h5 bv), (h3, mkC h4), (h4, .inl (cJ, 4, .inr (.inl f))), (h5, mkC h6), (h6, .inl (cJ, 4, .inr (.inl g))), (h7, cuC cv)] := hD
      refine W.widen (k := 0) (n := 0) (Nat.le_of_ble_eq_true rfl) (Nat.le_of_ble_eq_true rfl) ?_
      have hP9 := hP.sub (ws' := [(h0, snC n0 k0 g0 sv h1 h2 h7), (h1, tmC tv), (h2, boC h3 h5 bv), (h3, mkC h4), (h4, .inl (cJ, 4, .inr (.inl f))), (h5, mkC h6), (h6, .inl (cJ, 4, .inr (.inl g))), (h7, cuC cv)]) [0, 1, 2, 3, 4, 5, 6, 7] rfl
      have hD9 := hD.sub (ws' := [(h0, snC n0 k0 g0 sv h1 h2 h7), (h1, tmC tv), (h2, boC h3 h5 bv), (h3, mkC h4), (h4, .inl (cJ, 4, .inr (.inl f))), (h5, mkC h6), (h6, .inl (cJ, 4, .inr (.inl g))), (h7, cuC cv)]) [0, 1, 2, 3, 4, 5, 6, 7] (by decide) rfl
      exact W.vret hx hb hr (fun t ht hW => ⟨⟨(), rfl, trivial, ⟨sv, tv, bv, cv, f, g, ⟨(by rw [← hRES, hE]), (by rw [← hRES, hE]), (by rw [← hRES, hE]), (by rw [← hRES, hE]), (by rw [← hRES, hE]), (by rw [← hRES, hE])⟩, by rw [ht]; exact hP9, va_K.moved hW.alike hK, hD9⟩⟩, hS.F ht⟩) hS.2.2 dX8_grow_84
    · have hE := hE.trans (if_pos c_41)
      refine lv_aload_n hx hb dX8_grow_34 rfl (lv_at hl 0 rfl) ?_
      refine lv_aload_n hx hb dX8_grow_35 rfl (lv_at hl 0 rfl) ?_
      refine va_get (D := D) (ci := 8) (v := .ref h7) (C := RX8) (T := TX8) (N := 20) hx hb ha inlX8 hown hK hP 0 rfl rfl 19 (by decide) (ha _ kf_X8_42) (fun _ h9 => h9) rfl dX8_grow_36 ?_
      refine lv_aload_n hx hb dX8_grow_39 rfl (lv_at hl 0 rfl) ?_
      refine va_get (D := D) (ci := 8) (v := .int (sv 6)) (C := RX8) (T := TX8) (N := 20) hx hb ha inlX8 hown hK hP 0 rfl rfl 6 (by decide) (ha _ kf_X8_9) (fun _ h9 => h9) rfl dX8_grow_40 ?_
      refine lv_topi (fun x_55 ex_55 => ?_)
      have hE := bd_at ex_55 hE
      refine lv_aload_n hx hb dX8_grow_43 rfl (lv_at hl 0 rfl) ?_
      refine va_get (D := D) (ci := 8) (v := .ref h1) (C := RX8) (T := TX8) (N := 20) hx hb ha inlX8 hown hK hP 0 rfl rfl 17 (by decide) (ha _ kf_X8_28) (fun _ h9 => h9) rfl dX8_grow_44 ?_
      refine va_getN (D := D) (ci := 9) (v := .int (tv 1)) (C := RX9) (T := TX9) (N := 6) hx hb ha inlX9 hown hK hP 1 rfl rfl 1 (by decide) (va_Nw.use rfl (hN.f RX8 140 "CongestionBench$Timer" "srtt" "I" "CongestionBench" (by decide +kernel))) (fun _ h9 => h9) rfl dX8_grow_47 ?_
      refine lv_topi (fun x_56 ex_56 => ?_)
      have hE := bd_at ex_56 hE
      refine lv_iload_n hx hb dX8_grow_50 rfl (lv_at hl 1 rfl) ?_
      have hPc := hP.sub (ws' := [(h7, cuC cv)]) [7] rfl
      have hDc := hD.sub (ws' := [(h7, cuC cv)]) [7] (by decide) rfl
      have hFc := va_free (wc := [(h7, cuC cv)]) hD hS hA [7] rfl
      refine va_calli (va_runV (As := [.int x_55, .int x_56, .int n1]) (rest := [.ref h0]) ⟨hx, hb, hml, hown, ha⟩ (s_cgrow l D cI cJ cZ cO _ h7 cv x_55 x_56 n1) (cwV 3 ha (gaV kl_X8_222 km_X2_grow ks_X2_grow kz_X2 kd_X2_grow) rfl rfl rfl (by decide +kernel) ⟨Nat.le_of_ble_eq_true rfl, Nat.le_of_ble_eq_true rfl⟩) ⟨pw_blind, va_recv hK hPc (ci := 2) (q0 := 0) rfl rfl, fun U hU hW => ⟨rfl, pw_start hU hW hPc hK hDc hN⟩⟩ rfl rfl hl.1 rfl (lv_room (Nat.le_of_ble_eq_true rfl)) dX8_grow_51 ⟨Nat.le_of_ble_eq_true rfl, Nat.le_of_ble_eq_true rfl⟩) hS (fun q _ h => hFc q h) hFc (fun r_57 u t H1 locs ht hvm hw hB hz1 hk1 hS => ?_)
      obtain ⟨cv, hX0, hP1, hK1, hD1⟩ := hB
      have hE := bd_at rfl hE
      have hE := bd_at hX0 hE
      have hE := bd_at hw.2 hE
      rw [ht] at hP1
      obtain ⟨hP, hD⟩ := va_join (wr := [(h0, snC n0 k0 g0 sv h1 h2 h7), (h1, tmC tv), (h2, boC h3 h5 bv), (h3, mkC h4), (h4, .inl (cJ, 4, .inr (.inl f))), (h5, mkC h6), (h6, .inl (cJ, 4, .inr (.inl g)))]) (w1 := [(h7, cuC cv)]) hP hD [7] [0, 1, 2, 3, 4, 5, 6] rfl rfl (by decide) (by decide) hk1 hFc hP1 hD1
      generalize H1 = H at hP hS ⊢
      have hP : va_P D vwCl [(h0, snC n0 k0 g0 sv h1 h2 h7), (h1, tmC tv), (h2, boC h3 h5 bv), (h3, mkC h4), (h4, .inl (cJ, 4, .inr (.inl f))), (h5, mkC h6), (h6, .inl (cJ, 4, .inr (.inl g))), (h7, cuC cv)] H := hP
      have hD : va_D A [(h0, snC n0 k0 g0 sv h1 h2 h7), (h1, tmC tv), (h2, boC h3 h5 bv), (h3, mkC h4), (h4, .inl (cJ, 4, .inr (.inl f))), (h5, mkC h6), (h6, .inl (cJ, 4, .inr (.inl g))), (h7, cuC cv)] := hD
      refine W.widen (k := 0) (n := 0) (Nat.le_of_ble_eq_true rfl) (Nat.le_of_ble_eq_true rfl) ?_
      have hr_57 := hw.1
      have hPc := hP.sub (ws' := [(h0, snC n0 k0 g0 sv h1 h2 h7), (h1, tmC tv), (h2, boC h3 h5 bv), (h3, mkC h4), (h4, .inl (cJ, 4, .inr (.inl f))), (h5, mkC h6), (h6, .inl (cJ, 4, .inr (.inl g))), (h7, cuC cv)]) [0, 1, 2, 3, 4, 5, 6, 7] rfl
      have hDc := hD.sub (ws' := [(h0, snC n0 k0 g0 sv h1 h2 h7), (h1, tmC tv), (h2, boC h3 h5 bv), (h3, mkC h4), (h4, .inl (cJ, 4, .inr (.inl f))), (h5, mkC h6), (h6, .inl (cJ, 4, .inr (.inl g))), (h7, cuC cv)]) [0, 1, 2, 3, 4, 5, 6, 7] (by decide) rfl
      have hFc := va_free (wc := [(h0, snC n0 k0 g0 sv h1 h2 h7), (h1, tmC tv), (h2, boC h3 h5 bv), (h3, mkC h4), (h4, .inl (cJ, 4, .inr (.inl f))), (h5, mkC h6), (h6, .inl (cJ, 4, .inr (.inl g))), (h7, cuC cv)]) hD hS hA [0, 1, 2, 3, 4, 5, 6, 7] rfl
      refine va_callv (va_runV (As := [.int r_57]) (rest := []) ⟨hx, hb, hml, hown, ha⟩ (s_setCwnd l D cI cJ cZ cO _ h0 h1 h2 h3 h4 h5 h6 h7 n0 k0 g0 sv tv bv cv f g r_57) (cwV 1 ha (gaV kl_X8_219 km_X8_setCwnd ks_X8_setCwnd kz_X8 kd_X8_setCwnd) rfl rfl rfl (by decide +kernel) ⟨Nat.le_of_ble_eq_true rfl, Nat.le_of_ble_eq_true rfl⟩) ⟨pw_blind, va_recv hK hPc (ci := 8) (q0 := 0) rfl rfl, fun U hU hW => ⟨rfl, pw_start hU hW hPc hK hDc hN⟩⟩ rfl rfl hl.1 rfl (lv_room (Nat.le_of_ble_eq_true rfl)) dX8_grow_54 ⟨Nat.le_of_ble_eq_true rfl, Nat.le_of_ble_eq_true rfl⟩) hS (fun q _ h => hFc q h) hFc (fun u t H1 locs ht hvm hw hB hz1 hk1 hS => ?_)
      obtain ⟨sv, tv, bv, cv, f, g, ⟨hX0, hX1, hX2, hX3, hX4, hX5⟩, hP1, hK1, hD1⟩ := hB
      have hE := bd_at rfl hE
      have hE := bd_at hX0 hE
      have hE := bd_at hX1 hE
      have hE := bd_at hX2 hE
      have hE := bd_at hX3 hE
      have hE := bd_at hX4 hE
      have hE := bd_at hX5 hE
      rw [ht] at hP1
      obtain ⟨hP, hD⟩ := va_join (wr := []) (w1 := [(h0, snC n0 k0 g0 sv h1 h2 h7), (h1, tmC tv), (h2, boC h3 h5 bv), (h3, mkC h4), (h4, .inl (cJ, 4, .inr (.inl f))), (h5, mkC h6), (h6, .inl (cJ, 4, .inr (.inl g))), (h7, cuC cv)]) hP hD [0, 1, 2, 3, 4, 5, 6, 7] [] rfl rfl (by decide) (by decide) hk1 hFc hP1 hD1
      generalize H1 = H at hP hS ⊢
      have hP : va_P D vwCl [(h0, snC n0 k0 g0 sv h1 h2 h7), (h1, tmC tv), (h2, boC h3 h5 bv), (h3, mkC h4), (h4, .inl (cJ, 4, .inr (.inl f))), (h5, mkC h6), (h6, .inl (cJ, 4, .inr (.inl g))), (h7, cuC cv)] H := hP
      have hD : va_D A [(h0, snC n0 k0 g0 sv h1 h2 h7), (h1, tmC tv), (h2, boC h3 h5 bv), (h3, mkC h4), (h4, .inl (cJ, 4, .inr (.inl f))), (h5, mkC h6), (h6, .inl (cJ, 4, .inr (.inl g))), (h7, cuC cv)] := hD
      refine W.widen (k := 0) (n := 0) (Nat.le_of_ble_eq_true rfl) (Nat.le_of_ble_eq_true rfl) ?_
      refine lv_goto (tgt := 84) hx hb dX8_grow_57 (by decide) ?_
      have hP9 := hP.sub (ws' := [(h0, snC n0 k0 g0 sv h1 h2 h7), (h1, tmC tv), (h2, boC h3 h5 bv), (h3, mkC h4), (h4, .inl (cJ, 4, .inr (.inl f))), (h5, mkC h6), (h6, .inl (cJ, 4, .inr (.inl g))), (h7, cuC cv)]) [0, 1, 2, 3, 4, 5, 6, 7] rfl
      have hD9 := hD.sub (ws' := [(h0, snC n0 k0 g0 sv h1 h2 h7), (h1, tmC tv), (h2, boC h3 h5 bv), (h3, mkC h4), (h4, .inl (cJ, 4, .inr (.inl f))), (h5, mkC h6), (h6, .inl (cJ, 4, .inr (.inl g))), (h7, cuC cv)]) [0, 1, 2, 3, 4, 5, 6, 7] (by decide) rfl
      exact W.vret hx hb hr (fun t ht hW => ⟨⟨(), rfl, trivial, ⟨sv, tv, bv, cv, f, g, ⟨(by rw [← hRES, hE]), (by rw [← hRES, hE]), (by rw [← hRES, hE]), (by rw [← hRES, hE]), (by rw [← hRES, hE]), (by rw [← hRES, hE])⟩, by rw [ht]; exact hP9, va_K.moved hW.alike hK, hD9⟩⟩, hS.F ht⟩) hS.2.2 dX8_grow_84
  · have hE := hE.trans (if_neg c_40)
    refine lv_aload_n hx hb dX8_grow_11 rfl (lv_at hl 0 rfl) ?_
    refine lv_aload_n hx hb dX8_grow_12 rfl (lv_at hl 0 rfl) ?_
    refine va_get (D := D) (ci := 8) (v := .int (sv 6)) (C := RX8) (T := TX8) (N := 20) hx hb ha inlX8 hown hK hP 0 rfl rfl 6 (by decide) (ha _ kf_X8_9) (fun _ h9 => h9) rfl dX8_grow_13 ?_
    refine lv_topi (fun x_66 ex_66 => ?_)
    have hE := bd_at ex_66 hE
    refine lv_sipush (v := 1024) hx hb dX8_grow_16 (by decide) ?_
    refine lv_iadd hx hb dX8_grow_19 ?_
    refine lv_topi (fun x_67 ex_67 => ?_)
    have hE := bd_at ex_67 hE
    have hPc := hP.sub (ws' := [(h0, snC n0 k0 g0 sv h1 h2 h7), (h1, tmC tv), (h2, boC h3 h5 bv), (h3, mkC h4), (h4, .inl (cJ, 4, .inr (.inl f))), (h5, mkC h6), (h6, .inl (cJ, 4, .inr (.inl g))), (h7, cuC cv)]) [0, 1, 2, 3, 4, 5, 6, 7] rfl
    have hDc := hD.sub (ws' := [(h0, snC n0 k0 g0 sv h1 h2 h7), (h1, tmC tv), (h2, boC h3 h5 bv), (h3, mkC h4), (h4, .inl (cJ, 4, .inr (.inl f))), (h5, mkC h6), (h6, .inl (cJ, 4, .inr (.inl g))), (h7, cuC cv)]) [0, 1, 2, 3, 4, 5, 6, 7] (by decide) rfl
    have hFc := va_free (wc := [(h0, snC n0 k0 g0 sv h1 h2 h7), (h1, tmC tv), (h2, boC h3 h5 bv), (h3, mkC h4), (h4, .inl (cJ, 4, .inr (.inl f))), (h5, mkC h6), (h6, .inl (cJ, 4, .inr (.inl g))), (h7, cuC cv)]) hD hS hA [0, 1, 2, 3, 4, 5, 6, 7] rfl
    refine va_callv (va_runV (As := [.int x_67]) (rest := []) ⟨hx, hb, hml, hown, ha⟩ (s_setCwnd l D cI cJ cZ cO _ h0 h1 h2 h3 h4 h5 h6 h7 n0 k0 g0 sv tv bv cv f g x_67) (cwV 1 ha (gaV kl_X8_219 km_X8_setCwnd ks_X8_setCwnd kz_X8 kd_X8_setCwnd) rfl rfl rfl (by decide +kernel) ⟨Nat.le_of_ble_eq_true rfl, Nat.le_of_ble_eq_true rfl⟩) ⟨pw_blind, va_recv hK hPc (ci := 8) (q0 := 0) rfl rfl, fun U hU hW => ⟨rfl, pw_start hU hW hPc hK hDc hN⟩⟩ rfl rfl hl.1 rfl (lv_room (Nat.le_of_ble_eq_true rfl)) dX8_grow_20 ⟨Nat.le_of_ble_eq_true rfl, Nat.le_of_ble_eq_true rfl⟩) hS (fun q _ h => hFc q h) hFc (fun u t H1 locs ht hvm hw hB hz1 hk1 hS => ?_)
    obtain ⟨sv, tv, bv, cv, f, g, ⟨hX0, hX1, hX2, hX3, hX4, hX5⟩, hP1, hK1, hD1⟩ := hB
    have hE := bd_at rfl hE
    have hE := bd_at hX0 hE
    have hE := bd_at hX1 hE
    have hE := bd_at hX2 hE
    have hE := bd_at hX3 hE
    have hE := bd_at hX4 hE
    have hE := bd_at hX5 hE
    rw [ht] at hP1
    obtain ⟨hP, hD⟩ := va_join (wr := []) (w1 := [(h0, snC n0 k0 g0 sv h1 h2 h7), (h1, tmC tv), (h2, boC h3 h5 bv), (h3, mkC h4), (h4, .inl (cJ, 4, .inr (.inl f))), (h5, mkC h6), (h6, .inl (cJ, 4, .inr (.inl g))), (h7, cuC cv)]) hP hD [0, 1, 2, 3, 4, 5, 6, 7] [] rfl rfl (by decide) (by decide) hk1 hFc hP1 hD1
    generalize H1 = H at hP hS ⊢
    have hP : va_P D vwCl [(h0, snC n0 k0 g0 sv h1 h2 h7), (h1, tmC tv), (h2, boC h3 h5 bv), (h3, mkC h4), (h4, .inl (cJ, 4, .inr (.inl f))), (h5, mkC h6), (h6, .inl (cJ, 4, .inr (.inl g))), (h7, cuC cv)] H := hP
    have hD : va_D A [(h0, snC n0 k0 g0 sv h1 h2 h7), (h1, tmC tv), (h2, boC h3 h5 bv), (h3, mkC h4), (h4, .inl (cJ, 4, .inr (.inl f))), (h5, mkC h6), (h6, .inl (cJ, 4, .inr (.inl g))), (h7, cuC cv)] := hD
    refine W.widen (k := 0) (n := 0) (Nat.le_of_ble_eq_true rfl) (Nat.le_of_ble_eq_true rfl) ?_
    refine lv_goto (tgt := 84) hx hb dX8_grow_23 (by decide) ?_
    have hP9 := hP.sub (ws' := [(h0, snC n0 k0 g0 sv h1 h2 h7), (h1, tmC tv), (h2, boC h3 h5 bv), (h3, mkC h4), (h4, .inl (cJ, 4, .inr (.inl f))), (h5, mkC h6), (h6, .inl (cJ, 4, .inr (.inl g))), (h7, cuC cv)]) [0, 1, 2, 3, 4, 5, 6, 7] rfl
    have hD9 := hD.sub (ws' := [(h0, snC n0 k0 g0 sv h1 h2 h7), (h1, tmC tv), (h2, boC h3 h5 bv), (h3, mkC h4), (h4, .inl (cJ, 4, .inr (.inl f))), (h5, mkC h6), (h6, .inl (cJ, 4, .inr (.inl g))), (h7, cuC cv)]) [0, 1, 2, 3, 4, 5, 6, 7] (by decide) rfl
    exact W.vret hx hb hr (fun t ht hW => ⟨⟨(), rfl, trivial, ⟨sv, tv, bv, cv, f, g, ⟨(by rw [← hRES, hE]), (by rw [← hRES, hE]), (by rw [← hRES, hE]), (by rw [← hRES, hE]), (by rw [← hRES, hE]), (by rw [← hRES, hE])⟩, by rw [ht]; exact hP9, va_K.moved hW.alike hK, hD9⟩⟩, hS.F ht⟩) hS.2.2 dX8_grow_84

set_option maxRecDepth 100000 in
def xc_dup (n0 : Int32) (k0 : Int32) (g0 : Int32) (sv : Nat → Int32) (tv : Nat → Int32) (bv : Nat → Int32) (cv : Nat → Int32) (f : Nat → Int64) (g : Nat → Int64) : (Nat → Int32) × (Nat → Int32) × (Nat → Int32) × (Nat → Int32) × (Nat → Int64) × (Nat → Int64) := bd (sv 10) (fun v1 => bd (v1 + (1 : Int32)) (fun v2 => bd (upd sv 10 v2) (fun sv => bd (sv 11) (fun v3 => (if v3 = (0 : Int32) then (sv, tv, bv, cv, f, g) else (if k0 = (3 : Int32) then (sv, tv, bv, cv, f, g) else bd (sv 6) (fun v4 => bd (v4 + (1024 : Int32)) (fun v5 => bd (xc_setCwnd n0 k0 g0 sv tv bv cv f g v5) (fun t6 => bd (t6.1) (fun sv => bd (t6.2.1) (fun tv => bd (t6.2.2.1) (fun bv => bd (t6.2.2.2.1) (fun cv => bd (t6.2.2.2.2.1) (fun f => bd (t6.2.2.2.2.2) (fun g => (sv, tv, bv, cv, f, g))))))))))))))))
set_option maxHeartbeats 4000000 in
set_option maxRecDepth 100000 in
theorem s_dup (l : Launch) (D : va_G) (cI cJ cZ cO : ClassId) (sz : Nat) (h0 h1 h2 h3 h4 h5 h6 h7 : Nat) (n0 k0 g0 : Int32) (sv tv bv cv : Nat → Int32) (f g : Nat → Int64) : Met l yX8_countDuplicate (wa yX8_countDuplicate cX8_countDuplicate 1 none) ({ frames := 2, cells := 0, slots := 0, locals := 61 }) (va_Pc [.ref h0] (pw_s D cI cJ cZ cO sz [(h0, snC n0 k0 g0 sv h1 h2 h7), (h1, tmC tv), (h2, boC h3 h5 bv), (h3, mkC h4), (h4, .inl (cJ, 4, .inr (.inl f))), (h5, mkC h6), (h6, .inl (cJ, 4, .inr (.inl g))), (h7, cuC cv)])) (va_Qv (fun (_ : Unit) => True) (fun (_ : Unit) (t : State) => ∃ (sv2 tv2 bv2 cv2 : Nat → Int32) (f2 g2 : Nat → Int64), (sv2 = (xc_dup n0 k0 g0 sv tv bv cv f g).1 ∧ tv2 = (xc_dup n0 k0 g0 sv tv bv cv f g).2.1 ∧ bv2 = (xc_dup n0 k0 g0 sv tv bv cv f g).2.2.1 ∧ cv2 = (xc_dup n0 k0 g0 sv tv bv cv f g).2.2.2.1 ∧ f2 = (xc_dup n0 k0 g0 sv tv bv cv f g).2.2.2.2.1 ∧ g2 = (xc_dup n0 k0 g0 sv tv bv cv f g).2.2.2.2.2) ∧ pw_t D cI cJ cZ cO (va_A [(h0, snC n0 k0 g0 sv h1 h2 h7), (h1, tmC tv), (h2, boC h3 h5 bv), (h3, mkC h4), (h4, .inl (cJ, 4, .inr (.inl f))), (h5, mkC h6), (h6, .inl (cJ, 4, .inr (.inl g))), (h7, cuC cv)] sz) [(h0, snC n0 k0 g0 sv2 h1 h2 h7), (h1, tmC tv2), (h2, boC h3 h5 bv2), (h3, mkC h4), (h4, .inl (cJ, 4, .inr (.inl f2))), (h5, mkC h6), (h6, .inl (cJ, 4, .inr (.inl g2))), (h7, cuC cv2)] t) (va_A [(h0, snC n0 k0 g0 sv h1 h2 h7), (h1, tmC tv), (h2, boC h3 h5 bv), (h3, mkC h4), (h4, .inl (cJ, 4, .inr (.inl f))), (h5, mkC h6), (h6, .inl (cJ, 4, .inr (.inl g))), (h7, cuC cv)] sz)) 0 0 (va_A [(h0, snC n0 k0 g0 sv h1 h2 h7), (h1, tmC tv), (h2, boC h3 h5 bv), (h3, mkC h4), (h4, .inl (cJ, 4, .inr (.inl f))), (h5, mkC h6), (h6, .inl (cJ, 4, .inr (.inl g))), (h7, cuC cv)] sz) := by
  refine Met.ofW (cc := cX8_countDuplicate) (maxL := 1) (ret := none) (by decide) rfl ?_
  intro p e s m args below meth c s₁ B hml hv
  obtain ⟨rfl, hsz, hP, hK, hD0, hN⟩ := hv
  have hx := B.exec
  have hb := B.bytes
  have hr := B.returns
  have hts := atoms_spec (ws := (wa yX8_countDuplicate cX8_countDuplicate 1 none)) B.pre
  have ha : ∀ w ∈ wsL_law, w.before _ s = true := fun w h => hts w (List.mem_cons_of_mem _ h)
  have hown : s.vm.findClass RX8 = some m.cls := findClass_of_methodNamed B.named
  have hlocks := B.notSynchronized
  subst hsz
  have hD := hD0.self (sz := s.heap.size)
  generalize hAe : va_A [(h0, snC n0 k0 g0 sv h1 h2 h7), (h1, tmC tv), (h2, boC h3 h5 bv), (h3, mkC h4), (h4, .inl (cJ, 4, .inr (.inl f))), (h5, mkC h6), (h6, .inl (cJ, 4, .inr (.inl g))), (h7, cuC cv)] s.heap.size = A at hD ⊢
  have hA : ∀ q : Nat, s.heap.size ≤ q → A q := fun q h => by rw [← hAe]; exact Or.inr h
  have hS : va_S A s.heap s.heap [] := va_S.rf
  have hP : va_P D vwCl [(h0, snC n0 k0 g0 sv h1 h2 h7), (h1, tmC tv), (h2, boC h3 h5 bv), (h3, mkC h4), (h4, .inl (cJ, 4, .inr (.inl f))), (h5, mkC h6), (h6, .inl (cJ, 4, .inr (.inl g))), (h7, cuC cv)] s.heap := hP
  have hl := lv_entry ([.ref h0]) (n := 1) (Nat.le_of_ble_eq_true rfl)
  rw [lg_entry_eq]
  generalize (lg_sl ([.ref h0]) ++ List.replicate (1 - (lg_sl ([.ref h0])).length) Slot.unset).toArray = ls at hl ⊢
  have hl : lv_has ls 1 [(0, .ref h0)] := hl
  obtain ⟨QP, hQP⟩ : ∃ y : State → Prop, y = (MQ below (va_Qv (fun (_ : Unit) => True) (fun (_ : Unit) (t : State) => ∃ (sv2 tv2 bv2 cv2 : Nat → Int32) (f2 g2 : Nat → Int64), (sv2 = (xc_dup n0 k0 g0 sv tv bv cv f g).1 ∧ tv2 = (xc_dup n0 k0 g0 sv tv bv cv f g).2.1 ∧ bv2 = (xc_dup n0 k0 g0 sv tv bv cv f g).2.2.1 ∧ cv2 = (xc_dup n0 k0 g0 sv tv bv cv f g).2.2.2.1 ∧ f2 = (xc_dup n0 k0 g0 sv tv bv cv f g).2.2.2.2.1 ∧ g2 = (xc_dup n0 k0 g0 sv tv bv cv f g).2.2.2.2.2) ∧ pw_t D cI cJ cZ cO A [(h0, snC n0 k0 g0 sv2 h1 h2 h7), (h1, tmC tv2), (h2, boC h3 h5 bv2), (h3, mkC h4), (h4, .inl (cJ, 4, .inr (.inl f2))), (h5, mkC h6), (h6, .inl (cJ, 4, .inr (.inl g2))), (h7, cuC cv2)] t) A) #[(.ref h0 : Value)] s 0 0 A) := ⟨_, rfl⟩
  obtain ⟨RES, hRES⟩ : ∃ y, y = (xc_dup n0 k0 g0 sv tv bv cv f g) := ⟨_, rfl⟩
  -- from the entry
  have hE := hRES
  unfold xc_dup at hE
  refine lv_aload_n hx hb dX8_countDuplicate_0 rfl (lv_at hl 0 rfl) ?_
  refine lv_dup hx hb dX8_countDuplicate_1 rfl ?_
  refine va_get (D := D) (ci := 8) (v := .int (sv 10)) (C := RX8) (T := TX8) (N := 20) hx hb ha inlX8 hown hK hP 0 rfl rfl 10 (by decide) (ha _ kf_X8_93) (fun _ h9 => h9) rfl dX8_countDuplicate_2 ?_
  refine lv_topi (fun x_16 ex_16 => ?_)
  have hE := bd_at ex_16 hE
  refine lv_iconst (v := 1) hx hb dX8_countDuplicate_5 (by decide) ?_
  refine lv_iadd hx hb dX8_countDuplicate_6 ?_
  refine lv_topi (fun x_17 ex_17 => ?_)
  have hE := bd_at ex_17 hE
  refine va_put (D := D) (ci := 8) (v := .int x_17) (ty := .int) (C := RX8) (T := TX8) (N := 20) hx hb ha inlX8 tyX8 tyX8_ok nmX8 hown hK hP hD hS 0 rfl rfl 10 (by decide) (ha _ kf_X8_93) (fun _ h9 => h9) rfl (by decide +kernel) rfl rfl (Nat.le_of_ble_eq_true rfl) dX8_countDuplicate_7 (fun H locs hP hD hS => ?_)
  have hP : va_P D vwCl [(h0, snC n0 k0 g0 (upd sv 10 x_17) h1 h2 h7), (h1, tmC tv), (h2, boC h3 h5 bv), (h3, mkC h4), (h4, .inl (cJ, 4, .inr (.inl f))), (h5, mkC h6), (h6, .inl (cJ, 4, .inr (.inl g))), (h7, cuC cv)] H := hP
  have hD : va_D A [(h0, snC n0 k0 g0 (upd sv 10 x_17) h1 h2 h7), (h1, tmC tv), (h2, boC h3 h5 bv), (h3, mkC h4), (h4, .inl (cJ, 4, .inr (.inl f))), (h5, mkC h6), (h6, .inl (cJ, 4, .inr (.inl g))), (h7, cuC cv)] := hD
  generalize hg_18 : upd sv 10 x_17 = sv at hP hD
  have hE := bs_at hg_18 hE
  refine lv_aload_n hx hb dX8_countDuplicate_10 rfl (lv_at hl 0 rfl) ?_
  refine va_get (D := D) (ci := 8) (v := .int (sv 11)) (C := RX8) (T := TX8) (N := 20) hx hb ha inlX8 hown hK hP 0 rfl rfl 11 (by decide) (ha _ kf_X8_86) (fun _ h9 => h9) rfl dX8_countDuplicate_11 ?_
  refine lv_topi (fun x_19 ex_19 => ?_)
  have hE := bd_at ex_19 hE
  refine lv_if_eq (tgt := 37) hx hb dX8_countDuplicate_14 (by decide) (fun c_20 => ?_) (fun c_20 => ?_)
  · have hE := hE.trans (if_pos c_20)
    have hP9 := hP.sub (ws' := [(h0, snC n0 k0 g0 sv h1 h2 h7), (h1, tmC tv), (h2, boC h3 h5 bv), (h3, mkC h4), (h4, .inl (cJ, 4, .inr (.inl f))), (h5, mkC h6), (h6, .inl (cJ, 4, .inr (.inl g))), (h7, cuC cv)]) [0, 1, 2, 3, 4, 5, 6, 7] rfl
    have hD9 := hD.sub (ws' := [(h0, snC n0 k0 g0 sv h1 h2 h7), (h1, tmC tv), (h2, boC h3 h5 bv), (h3, mkC h4), (h4, .inl (cJ, 4, .inr (.inl f))), (h5, mkC h6), (h6, .inl (cJ, 4, .inr (.inl g))), (h7, cuC cv)]) [0, 1, 2, 3, 4, 5, 6, 7] (by decide) rfl
    exact W.vret hx hb hr (fun t ht hW => ⟨⟨(), rfl, trivial, ⟨sv, tv, bv, cv, f, g, ⟨(by rw [← hRES, hE]), (by rw [← hRES, hE]), (by rw [← hRES, hE]), (by rw [← hRES, hE]), (by rw [← hRES, hE]), (by rw [← hRES, hE])⟩, by rw [ht]; exact hP9, va_K.moved hW.alike hK, hD9⟩⟩, hS.F ht⟩) hS.2.2 dX8_countDuplicate_37
  · have hE := hE.trans (if_neg c_20)
    refine lv_aload_n hx hb dX8_countDuplicate_17 rfl (lv_at hl 0 rfl) ?_
    refine va_get (D := D) (ci := 8) (v := .int k0) (C := RX8) (T := TX8) (N := 20) hx hb ha inlX8 hown hK hP 0 rfl rfl 1 (by decide) (ha _ kf_X8_49) (fun _ h9 => h9) rfl dX8_countDuplicate_18 ?_
    refine lv_iconst (v := 3) hx hb dX8_countDuplicate_21 (by decide) ?_
    refine lv_icmp_eq (tgt := 37) hx hb dX8_countDuplicate_22 (by decide) (fun c_21 => ?_) (fun c_21 => ?_)
    · have hE := hE.trans (if_pos c_21)
      have hP9 := hP.sub (ws' := [(h0, snC n0 k0 g0 sv h1 h2 h7), (h1, tmC tv), (h2, boC h3 h5 bv), (h3, mkC h4), (h4, .inl (cJ, 4, .inr (.inl f))), (h5, mkC h6), (h6, .inl (cJ, 4, .inr (.inl g))), (h7, cuC cv)]) [0, 1, 2, 3, 4, 5, 6, 7] rfl
      have hD9 := hD.sub (ws' := [(h0, snC n0 k0 g0 sv h1 h2 h7), (h1, tmC tv), (h2, boC h3 h5 bv), (h3, mkC h4), (h4, .inl (cJ, 4, .inr (.inl f))), (h5, mkC h6), (h6, .inl (cJ, 4, .inr (.inl g))), (h7, cuC cv)]) [0, 1, 2, 3, 4, 5, 6, 7] (by decide) rfl
      exact W.vret hx hb hr (fun t ht hW => ⟨⟨(), rfl, trivial, ⟨sv, tv, bv, cv, f, g, ⟨(by rw [← hRES, hE]), (by rw [← hRES, hE]), (by rw [← hRES, hE]), (by rw [← hRES, hE]), (by rw [← hRES, hE]), (by rw [← hRES, hE])⟩, by rw [ht]; exact hP9, va_K.moved hW.alike hK, hD9⟩⟩, hS.F ht⟩) hS.2.2 dX8_countDuplicate_37
    · have hE := hE.trans (if_neg c_21)
      refine lv_aload_n hx hb dX8_countDuplicate_25 rfl (lv_at hl 0 rfl) ?_
      refine lv_aload_n hx hb dX8_countDuplicate_26 rfl (lv_at hl 0 rfl) ?_
      refine va_get (D := D) (ci := 8) (v := .int (sv 6)) (C := RX8) (T := TX8) (N := 20) hx hb ha inlX8 hown hK hP 0 rfl rfl 6 (by decide) (ha _ kf_X8_9) (fun _ h9 => h9) rfl dX8_countDuplicate_27 ?_
      refine lv_topi (fun x_22 ex_22 => ?_)
      have hE := bd_at ex_22 hE
      refine lv_sipush (v := 1024) hx hb dX8_countDuplicate_30 (by decide) ?_
      refine lv_iadd hx hb dX8_countDuplicate_33 ?_
      refine lv_topi (fun x_23 ex_23 => ?_)
      have hE := bd_at ex_23 hE
      have hPc := hP.sub (ws' := [(h0, snC n0 k0 g0 sv h1 h2 h7), (h1, tmC tv), (h2, boC h3 h5 bv), (h3, mkC h4), (h4, .inl (cJ, 4, .inr (.inl f))), (h5, mkC h6), (h6, .inl (cJ, 4, .inr (.inl g))), (h7, cuC cv)]) [0, 1, 2, 3, 4, 5, 6, 7] rfl
      have hDc := hD.sub (ws' := [(h0, snC n0 k0 g0 sv h1 h2 h7), (h1, tmC tv), (h2, boC h3 h5 bv), (h3, mkC h4), (h4, .inl (cJ, 4, .inr (.inl f))), (h5, mkC h6), (h6, .inl (cJ, 4, .inr (.inl g))), (h7, cuC cv)]) [0, 1, 2, 3, 4, 5, 6, 7] (by decide) rfl
      have hFc := va_free (wc := [(h0, snC n0 k0 g0 sv h1 h2 h7), (h1, tmC tv), (h2, boC h3 h5 bv), (h3, mkC h4), (h4, .inl (cJ, 4, .inr (.inl f))), (h5, mkC h6), (h6, .inl (cJ, 4, .inr (.inl g))), (h7, cuC cv)]) hD hS hA [0, 1, 2, 3, 4, 5, 6, 7] rfl
      refine va_callv (va_runV (As := [.int x_23]) (rest := []) ⟨hx, hb, hml, hown, ha⟩ (s_setCwnd l D cI cJ cZ cO _ h0 h1 h2 h3 h4 h5 h6 h7 n0 k0 g0 sv tv bv cv f g x_23) (cwV 1 ha (gaV kl_X8_219 km_X8_setCwnd ks_X8_setCwnd kz_X8 kd_X8_setCwnd) rfl rfl rfl (by decide +kernel) ⟨Nat.le_of_ble_eq_true rfl, Nat.le_of_ble_eq_true rfl⟩) ⟨pw_blind, va_recv hK hPc (ci := 8) (q0 := 0) rfl rfl, fun U hU hW => ⟨rfl, pw_start hU hW hPc hK hDc hN⟩⟩ rfl rfl hl.1 rfl (lv_room (Nat.le_of_ble_eq_true rfl)) dX8_countDuplicate_34 ⟨Nat.le_of_ble_eq_true rfl, Nat.le_of_ble_eq_true rfl⟩) hS (fun q _ h => hFc q h) hFc (fun u t H1 locs ht hvm hw hB hz1 hk1 hS => ?_)
      obtain ⟨sv, tv, bv, cv, f, g, ⟨hX0, hX1, hX2, hX3, hX4, hX5⟩, hP1, hK1, hD1⟩ := hB
      have hE := bd_at rfl hE
      have hE := bd_at hX0 hE
      have hE := bd_at hX1 hE
      have hE := bd_at hX2 hE
      have hE := bd_at hX3 hE
      have hE := bd_at hX4 hE
      have hE := bd_at hX5 hE
      rw [ht] at hP1
      obtain ⟨hP, hD⟩ := va_join (wr := []) (w1 := [(h0, snC n0 k0 g0 sv h1 h2 h7), (h1, tmC tv), (h2, boC h3 h5 bv), (h3, mkC h4), (h4, .inl (cJ, 4, .inr (.inl f))), (h5, mkC h6), (h6, .inl (cJ, 4, .inr (.inl g))), (h7, cuC cv)]) hP hD [0, 1, 2, 3, 4, 5, 6, 7] [] rfl rfl (by decide) (by decide) hk1 hFc hP1 hD1
      generalize H1 = H at hP hS ⊢
      have hP : va_P D vwCl [(h0, snC n0 k0 g0 sv h1 h2 h7), (h1, tmC tv), (h2, boC h3 h5 bv), (h3, mkC h4), (h4, .inl (cJ, 4, .inr (.inl f))), (h5, mkC h6), (h6, .inl (cJ, 4, .inr (.inl g))), (h7, cuC cv)] H := hP
      have hD : va_D A [(h0, snC n0 k0 g0 sv h1 h2 h7), (h1, tmC tv), (h2, boC h3 h5 bv), (h3, mkC h4), (h4, .inl (cJ, 4, .inr (.inl f))), (h5, mkC h6), (h6, .inl (cJ, 4, .inr (.inl g))), (h7, cuC cv)] := hD
      refine W.widen (k := 0) (n := 0) (Nat.le_of_ble_eq_true rfl) (Nat.le_of_ble_eq_true rfl) ?_
      have hP9 := hP.sub (ws' := [(h0, snC n0 k0 g0 sv h1 h2 h7), (h1, tmC tv), (h2, boC h3 h5 bv), (h3, mkC h4), (h4, .inl (cJ, 4, .inr (.inl f))), (h5, mkC h6), (h6, .inl (cJ, 4, .inr (.inl g))), (h7, cuC cv)]) [0, 1, 2, 3, 4, 5, 6, 7] rfl
      have hD9 := hD.sub (ws' := [(h0, snC n0 k0 g0 sv h1 h2 h7), (h1, tmC tv), (h2, boC h3 h5 bv), (h3, mkC h4), (h4, .inl (cJ, 4, .inr (.inl f))), (h5, mkC h6), (h6, .inl (cJ, 4, .inr (.inl g))), (h7, cuC cv)]) [0, 1, 2, 3, 4, 5, 6, 7] (by decide) rfl
      exact W.vret hx hb hr (fun t ht hW => ⟨⟨(), rfl, trivial, ⟨sv, tv, bv, cv, f, g, ⟨(by rw [← hRES, hE]), (by rw [← hRES, hE]), (by rw [← hRES, hE]), (by rw [← hRES, hE]), (by rw [← hRES, hE]), (by rw [← hRES, hE])⟩, by rw [ht]; exact hP9, va_K.moved hW.alike hK, hD9⟩⟩, hS.F ht⟩) hS.2.2 dX8_countDuplicate_37

set_option maxRecDepth 100000 in
def xc_starts (n0 : Int32) (k0 : Int32) (g0 : Int32) (sv : Nat → Int32) (tv : Nat → Int32) (bv : Nat → Int32) (cv : Nat → Int32) (f : Nat → Int64) (g : Nat → Int64) : (Nat → Int32) × (Nat → Int32) × (Nat → Int32) × (Nat → Int32) × (Nat → Int64) × (Nat → Int64) × Int32 := bd (sv 11) (fun v1 => (if v1 = (0 : Int32) then bd (sv 10) (fun v2 => (if v2 = (3 : Int32) then (if k0 = (0 : Int32) then (sv, tv, bv, cv, f, g, (1 : Int32)) else bd (sv 3) (fun v3 => bd (sv 12) (fun v4 => (if v3 < v4 then (sv, tv, bv, cv, f, g, (0 : Int32)) else (sv, tv, bv, cv, f, g, (1 : Int32)))))) else (sv, tv, bv, cv, f, g, (0 : Int32)))) else (sv, tv, bv, cv, f, g, (0 : Int32))))
set_option maxHeartbeats 4000000 in
set_option maxRecDepth 100000 in
theorem s_starts (l : Launch) (D : va_G) (cI cJ cZ cO : ClassId) (sz : Nat) (h0 h1 h2 h3 h4 h5 h6 h7 : Nat) (n0 k0 g0 : Int32) (sv tv bv cv : Nat → Int32) (f g : Nat → Int64) : Met l yX8_startsRecovery (wa yX8_startsRecovery cX8_startsRecovery 1 (some .boolean)) ({ frames := 0, cells := 0, slots := 0, locals := 0 }) (va_Pc [.ref h0] (pw_s D cI cJ cZ cO sz [(h0, snC n0 k0 g0 sv h1 h2 h7), (h1, tmC tv), (h2, boC h3 h5 bv), (h3, mkC h4), (h4, .inl (cJ, 4, .inr (.inl f))), (h5, mkC h6), (h6, .inl (cJ, 4, .inr (.inl g))), (h7, cuC cv)])) (va_Qi (fun (r : Int32) (_ : Unit) => ((r = 0 ∨ r = 1) ∧ r = (xc_starts n0 k0 g0 sv tv bv cv f g).2.2.2.2.2.2)) (fun (_ : Unit) (t : State) => ∃ (sv2 tv2 bv2 cv2 : Nat → Int32) (f2 g2 : Nat → Int64), (sv2 = (xc_starts n0 k0 g0 sv tv bv cv f g).1 ∧ tv2 = (xc_starts n0 k0 g0 sv tv bv cv f g).2.1 ∧ bv2 = (xc_starts n0 k0 g0 sv tv bv cv f g).2.2.1 ∧ cv2 = (xc_starts n0 k0 g0 sv tv bv cv f g).2.2.2.1 ∧ f2 = (xc_starts n0 k0 g0 sv tv bv cv f g).2.2.2.2.1 ∧ g2 = (xc_starts n0 k0 g0 sv tv bv cv f g).2.2.2.2.2.1) ∧ pw_t D cI cJ cZ cO (va_A [(h0, snC n0 k0 g0 sv h1 h2 h7), (h1, tmC tv), (h2, boC h3 h5 bv), (h3, mkC h4), (h4, .inl (cJ, 4, .inr (.inl f))), (h5, mkC h6), (h6, .inl (cJ, 4, .inr (.inl g))), (h7, cuC cv)] sz) [(h0, snC n0 k0 g0 sv2 h1 h2 h7), (h1, tmC tv2), (h2, boC h3 h5 bv2), (h3, mkC h4), (h4, .inl (cJ, 4, .inr (.inl f2))), (h5, mkC h6), (h6, .inl (cJ, 4, .inr (.inl g2))), (h7, cuC cv2)] t) (va_A [(h0, snC n0 k0 g0 sv h1 h2 h7), (h1, tmC tv), (h2, boC h3 h5 bv), (h3, mkC h4), (h4, .inl (cJ, 4, .inr (.inl f))), (h5, mkC h6), (h6, .inl (cJ, 4, .inr (.inl g))), (h7, cuC cv)] sz)) 0 0 (va_A [(h0, snC n0 k0 g0 sv h1 h2 h7), (h1, tmC tv), (h2, boC h3 h5 bv), (h3, mkC h4), (h4, .inl (cJ, 4, .inr (.inl f))), (h5, mkC h6), (h6, .inl (cJ, 4, .inr (.inl g))), (h7, cuC cv)] sz) := by
  refine Met.ofW (cc := cX8_startsRecovery) (maxL := 1) (ret := (some .boolean)) (by decide) rfl ?_
  intro p e s m args below meth c s₁ B hml hv
  obtain ⟨rfl, hsz, hP, hK, hD0, hN⟩ := hv
  have hx := B.exec
  have hb := B.bytes
  have hr := B.returns
  have hts := atoms_spec (ws := (wa yX8_startsRecovery cX8_startsRecovery 1 (some .boolean))) B.pre
  have ha : ∀ w ∈ wsL_law, w.before _ s = true := fun w h => hts w (List.mem_cons_of_mem _ h)
  have hown : s.vm.findClass RX8 = some m.cls := findClass_of_methodNamed B.named
  have hlocks := B.notSynchronized
  subst hsz
  have hD := hD0.self (sz := s.heap.size)
  generalize hAe : va_A [(h0, snC n0 k0 g0 sv h1 h2 h7), (h1, tmC tv), (h2, boC h3 h5 bv), (h3, mkC h4), (h4, .inl (cJ, 4, .inr (.inl f))), (h5, mkC h6), (h6, .inl (cJ, 4, .inr (.inl g))), (h7, cuC cv)] s.heap.size = A at hD ⊢
  have hA : ∀ q : Nat, s.heap.size ≤ q → A q := fun q h => by rw [← hAe]; exact Or.inr h
  have hS : va_S A s.heap s.heap [] := va_S.rf
  have hP : va_P D vwCl [(h0, snC n0 k0 g0 sv h1 h2 h7), (h1, tmC tv), (h2, boC h3 h5 bv), (h3, mkC h4), (h4, .inl (cJ, 4, .inr (.inl f))), (h5, mkC h6), (h6, .inl (cJ, 4, .inr (.inl g))), (h7, cuC cv)] s.heap := hP
  have hl := lv_entry ([.ref h0]) (n := 1) (Nat.le_of_ble_eq_true rfl)
  rw [lg_entry_eq]
  generalize (lg_sl ([.ref h0]) ++ List.replicate (1 - (lg_sl ([.ref h0])).length) Slot.unset).toArray = ls at hl ⊢
  have hl : lv_has ls 1 [(0, .ref h0)] := hl
  obtain ⟨QP, hQP⟩ : ∃ y : State → Prop, y = (MQ below (va_Qi (fun (r : Int32) (_ : Unit) => ((r = 0 ∨ r = 1) ∧ r = (xc_starts n0 k0 g0 sv tv bv cv f g).2.2.2.2.2.2)) (fun (_ : Unit) (t : State) => ∃ (sv2 tv2 bv2 cv2 : Nat → Int32) (f2 g2 : Nat → Int64), (sv2 = (xc_starts n0 k0 g0 sv tv bv cv f g).1 ∧ tv2 = (xc_starts n0 k0 g0 sv tv bv cv f g).2.1 ∧ bv2 = (xc_starts n0 k0 g0 sv tv bv cv f g).2.2.1 ∧ cv2 = (xc_starts n0 k0 g0 sv tv bv cv f g).2.2.2.1 ∧ f2 = (xc_starts n0 k0 g0 sv tv bv cv f g).2.2.2.2.1 ∧ g2 = (xc_starts n0 k0 g0 sv tv bv cv f g).2.2.2.2.2.1) ∧ pw_t D cI cJ cZ cO A [(h0, snC n0 k0 g0 sv2 h1 h2 h7), (h1, tmC tv2), (h2, boC h3 h5 bv2), (h3, mkC h4), (h4, .inl (cJ, 4, .inr (.inl f2))), (h5, mkC h6), (h6, .inl (cJ, 4, .inr (.inl g2))), (h7, cuC cv2)] t) A) #[(.ref h0 : Value)] s 0 0 A) := ⟨_, rfl⟩
  obtain ⟨RES, hRES⟩ : ∃ y, y = (xc_starts n0 k0 g0 sv tv bv cv f g) := ⟨_, rfl⟩
  -- from the entry
  have hE := hRES
  unfold xc_starts at hE
  refine lv_aload_n hx hb dX8_startsRecovery_0 rfl (lv_at hl 0 rfl) ?_
  refine va_get (D := D) (ci := 8) (v := .int (sv 11)) (C := RX8) (T := TX8) (N := 20) hx hb ha inlX8 hown hK hP 0 rfl rfl 11 (by decide) (ha _ kf_X8_86) (fun _ h9 => h9) rfl dX8_startsRecovery_1 ?_
  refine lv_topi (fun x_9 ex_9 => ?_)
  have hE := bd_at ex_9 hE
  refine lv_if_ne (tgt := 37) hx hb dX8_startsRecovery_4 (by decide) (fun c_10 => ?_) (fun c_10 => ?_)
  · have hE := hE.trans (if_neg c_10)
    refine lv_iconst (v := 0) hx hb dX8_startsRecovery_37 (by decide) ?_
    have hP9 := hP.sub (ws' := [(h0, snC n0 k0 g0 sv h1 h2 h7), (h1, tmC tv), (h2, boC h3 h5 bv), (h3, mkC h4), (h4, .inl (cJ, 4, .inr (.inl f))), (h5, mkC h6), (h6, .inl (cJ, 4, .inr (.inl g))), (h7, cuC cv)]) [0, 1, 2, 3, 4, 5, 6, 7] rfl
    have hD9 := hD.sub (ws' := [(h0, snC n0 k0 g0 sv h1 h2 h7), (h1, tmC tv), (h2, boC h3 h5 bv), (h3, mkC h4), (h4, .inl (cJ, 4, .inr (.inl f))), (h5, mkC h6), (h6, .inl (cJ, 4, .inr (.inl g))), (h7, cuC cv)]) [0, 1, 2, 3, 4, 5, 6, 7] (by decide) rfl
    exact W.zret (v := 0) hx hb hr rfl (fun t ht hW => ⟨⟨0, (), rfl, ⟨(by decide), (by rw [← hRES, hE])⟩, ⟨sv, tv, bv, cv, f, g, ⟨(by rw [← hRES, hE]), (by rw [← hRES, hE]), (by rw [← hRES, hE]), (by rw [← hRES, hE]), (by rw [← hRES, hE]), (by rw [← hRES, hE])⟩, by rw [ht]; exact hP9, va_K.moved hW.alike hK, hD9⟩⟩, hS.F ht⟩) hS.2.2 dX8_startsRecovery_38
  · have hE := hE.trans (if_pos c_10)
    refine lv_aload_n hx hb dX8_startsRecovery_7 rfl (lv_at hl 0 rfl) ?_
    refine va_get (D := D) (ci := 8) (v := .int (sv 10)) (C := RX8) (T := TX8) (N := 20) hx hb ha inlX8 hown hK hP 0 rfl rfl 10 (by decide) (ha _ kf_X8_93) (fun _ h9 => h9) rfl dX8_startsRecovery_8 ?_
    refine lv_topi (fun x_11 ex_11 => ?_)
    have hE := bd_at ex_11 hE
    refine lv_iconst (v := 3) hx hb dX8_startsRecovery_11 (by decide) ?_
    refine lv_icmp_ne (tgt := 37) hx hb dX8_startsRecovery_12 (by decide) (fun c_12 => ?_) (fun c_12 => ?_)
    · have hE := hE.trans (if_neg c_12)
      refine lv_iconst (v := 0) hx hb dX8_startsRecovery_37 (by decide) ?_
      have hP9 := hP.sub (ws' := [(h0, snC n0 k0 g0 sv h1 h2 h7), (h1, tmC tv), (h2, boC h3 h5 bv), (h3, mkC h4), (h4, .inl (cJ, 4, .inr (.inl f))), (h5, mkC h6), (h6, .inl (cJ, 4, .inr (.inl g))), (h7, cuC cv)]) [0, 1, 2, 3, 4, 5, 6, 7] rfl
      have hD9 := hD.sub (ws' := [(h0, snC n0 k0 g0 sv h1 h2 h7), (h1, tmC tv), (h2, boC h3 h5 bv), (h3, mkC h4), (h4, .inl (cJ, 4, .inr (.inl f))), (h5, mkC h6), (h6, .inl (cJ, 4, .inr (.inl g))), (h7, cuC cv)]) [0, 1, 2, 3, 4, 5, 6, 7] (by decide) rfl
      exact W.zret (v := 0) hx hb hr rfl (fun t ht hW => ⟨⟨0, (), rfl, ⟨(by decide), (by rw [← hRES, hE])⟩, ⟨sv, tv, bv, cv, f, g, ⟨(by rw [← hRES, hE]), (by rw [← hRES, hE]), (by rw [← hRES, hE]), (by rw [← hRES, hE]), (by rw [← hRES, hE]), (by rw [← hRES, hE])⟩, by rw [ht]; exact hP9, va_K.moved hW.alike hK, hD9⟩⟩, hS.F ht⟩) hS.2.2 dX8_startsRecovery_38
    · have hE := hE.trans (if_pos c_12)
      refine lv_aload_n hx hb dX8_startsRecovery_15 rfl (lv_at hl 0 rfl) ?_
      refine va_get (D := D) (ci := 8) (v := .int k0) (C := RX8) (T := TX8) (N := 20) hx hb ha inlX8 hown hK hP 0 rfl rfl 1 (by decide) (ha _ kf_X8_49) (fun _ h9 => h9) rfl dX8_startsRecovery_16 ?_
      refine lv_if_eq (tgt := 33) hx hb dX8_startsRecovery_19 (by decide) (fun c_13 => ?_) (fun c_13 => ?_)
      · have hE := hE.trans (if_pos c_13)
        refine lv_iconst (v := 1) hx hb dX8_startsRecovery_33 (by decide) ?_
        refine lv_goto (tgt := 38) hx hb dX8_startsRecovery_34 (by decide) ?_
        have hP9 := hP.sub (ws' := [(h0, snC n0 k0 g0 sv h1 h2 h7), (h1, tmC tv), (h2, boC h3 h5 bv), (h3, mkC h4), (h4, .inl (cJ, 4, .inr (.inl f))), (h5, mkC h6), (h6, .inl (cJ, 4, .inr (.inl g))), (h7, cuC cv)]) [0, 1, 2, 3, 4, 5, 6, 7] rfl
        have hD9 := hD.sub (ws' := [(h0, snC n0 k0 g0 sv h1 h2 h7), (h1, tmC tv), (h2, boC h3 h5 bv), (h3, mkC h4), (h4, .inl (cJ, 4, .inr (.inl f))), (h5, mkC h6), (h6, .inl (cJ, 4, .inr (.inl g))), (h7, cuC cv)]) [0, 1, 2, 3, 4, 5, 6, 7] (by decide) rfl
        exact W.zret (v := 1) hx hb hr rfl (fun t ht hW => ⟨⟨1, (), rfl, ⟨(by decide), (by rw [← hRES, hE])⟩, ⟨sv, tv, bv, cv, f, g, ⟨(by rw [← hRES, hE]), (by rw [← hRES, hE]), (by rw [← hRES, hE]), (by rw [← hRES, hE]), (by rw [← hRES, hE]), (by rw [← hRES, hE])⟩, by rw [ht]; exact hP9, va_K.moved hW.alike hK, hD9⟩⟩, hS.F ht⟩) hS.2.2 dX8_startsRecovery_38
      · have hE := hE.trans (if_neg c_13)
        refine lv_aload_n hx hb dX8_startsRecovery_22 rfl (lv_at hl 0 rfl) ?_
        refine va_get (D := D) (ci := 8) (v := .int (sv 3)) (C := RX8) (T := TX8) (N := 20) hx hb ha inlX8 hown hK hP 0 rfl rfl 3 (by decide) (ha _ kf_X8_59) (fun _ h9 => h9) rfl dX8_startsRecovery_23 ?_
        refine lv_topi (fun x_14 ex_14 => ?_)
        have hE := bd_at ex_14 hE
        refine lv_aload_n hx hb dX8_startsRecovery_26 rfl (lv_at hl 0 rfl) ?_
        refine va_get (D := D) (ci := 8) (v := .int (sv 12)) (C := RX8) (T := TX8) (N := 20) hx hb ha inlX8 hown hK hP 0 rfl rfl 12 (by decide) (ha _ kf_X8_216) (fun _ h9 => h9) rfl dX8_startsRecovery_27 ?_
        refine lv_topi (fun x_15 ex_15 => ?_)
        have hE := bd_at ex_15 hE
        refine lv_icmp_lt (tgt := 37) hx hb dX8_startsRecovery_30 (by decide) (fun c_16 => ?_) (fun c_16 => ?_)
        · have hE := hE.trans (if_pos c_16)
          refine lv_iconst (v := 0) hx hb dX8_startsRecovery_37 (by decide) ?_
          have hP9 := hP.sub (ws' := [(h0, snC n0 k0 g0 sv h1 h2 h7), (h1, tmC tv), (h2, boC h3 h5 bv), (h3, mkC h4), (h4, .inl (cJ, 4, .inr (.inl f))), (h5, mkC h6), (h6, .inl (cJ, 4, .inr (.inl g))), (h7, cuC cv)]) [0, 1, 2, 3, 4, 5, 6, 7] rfl
          have hD9 := hD.sub (ws' := [(h0, snC n0 k0 g0 sv h1 h2 h7), (h1, tmC tv), (h2, boC h3 h5 bv), (h3, mkC h4), (h4, .inl (cJ, 4, .inr (.inl f))), (h5, mkC h6), (h6, .inl (cJ, 4, .inr (.inl g))), (h7, cuC cv)]) [0, 1, 2, 3, 4, 5, 6, 7] (by decide) rfl
          exact W.zret (v := 0) hx hb hr rfl (fun t ht hW => ⟨⟨0, (), rfl, ⟨(by decide), (by rw [← hRES, hE])⟩, ⟨sv, tv, bv, cv, f, g, ⟨(by rw [← hRES, hE]), (by rw [← hRES, hE]), (by rw [← hRES, hE]), (by rw [← hRES, hE]), (by rw [← hRES, hE]), (by rw [← hRES, hE])⟩, by rw [ht]; exact hP9, va_K.moved hW.alike hK, hD9⟩⟩, hS.F ht⟩) hS.2.2 dX8_startsRecovery_38
        · have hE := hE.trans (if_neg c_16)
          refine lv_iconst (v := 1) hx hb dX8_startsRecovery_33 (by decide) ?_
          refine lv_goto (tgt := 38) hx hb dX8_startsRecovery_34 (by decide) ?_
          have hP9 := hP.sub (ws' := [(h0, snC n0 k0 g0 sv h1 h2 h7), (h1, tmC tv), (h2, boC h3 h5 bv), (h3, mkC h4), (h4, .inl (cJ, 4, .inr (.inl f))), (h5, mkC h6), (h6, .inl (cJ, 4, .inr (.inl g))), (h7, cuC cv)]) [0, 1, 2, 3, 4, 5, 6, 7] rfl
          have hD9 := hD.sub (ws' := [(h0, snC n0 k0 g0 sv h1 h2 h7), (h1, tmC tv), (h2, boC h3 h5 bv), (h3, mkC h4), (h4, .inl (cJ, 4, .inr (.inl f))), (h5, mkC h6), (h6, .inl (cJ, 4, .inr (.inl g))), (h7, cuC cv)]) [0, 1, 2, 3, 4, 5, 6, 7] (by decide) rfl
          exact W.zret (v := 1) hx hb hr rfl (fun t ht hW => ⟨⟨1, (), rfl, ⟨(by decide), (by rw [← hRES, hE])⟩, ⟨sv, tv, bv, cv, f, g, ⟨(by rw [← hRES, hE]), (by rw [← hRES, hE]), (by rw [← hRES, hE]), (by rw [← hRES, hE]), (by rw [← hRES, hE]), (by rw [← hRES, hE])⟩, by rw [ht]; exact hP9, va_K.moved hW.alike hK, hD9⟩⟩, hS.F ht⟩) hS.2.2 dX8_startsRecovery_38

set_option maxRecDepth 100000 in
def xc_loss (n0 : Int32) (k0 : Int32) (g0 : Int32) (sv : Nat → Int32) (tv : Nat → Int32) (bv : Nat → Int32) (cv : Nat → Int32) (f : Nat → Int64) (g : Nat → Int64) : (Nat → Int32) × (Nat → Int32) × (Nat → Int32) × (Nat → Int32) × (Nat → Int64) × (Nat → Int64) × Int32 := (if k0 = (2 : Int32) then bd (sv 6) (fun v6 => bd (xc_closs cv v6) (fun t7 => bd (t7.1) (fun cv => bd (t7.2) (fun v8 => (sv, tv, bv, cv, f, g, v8))))) else bd (sv 4) (fun v1 => bd (sv 3) (fun v2 => bd (v1 - v2) (fun v3 => bd (v3 * (512 : Int32)) (fun v4 => bd (if (2048 : Int32) < v4 then v4 else (2048 : Int32)) (fun v5 => (sv, tv, bv, cv, f, g, v5)))))))
set_option maxHeartbeats 4000000 in
set_option maxRecDepth 100000 in
theorem s_loss (l : Launch) (D : va_G) (cI cJ cZ cO : ClassId) (sz : Nat) (h0 h1 h2 h3 h4 h5 h6 h7 : Nat) (n0 k0 g0 : Int32) (sv tv bv cv : Nat → Int32) (f g : Nat → Int64) : Met l yX8_lossThreshold (wa yX8_lossThreshold cX8_lossThreshold 1 (some .int)) ({ frames := 2, cells := 0, slots := 0, locals := 61 }) (va_Pc [.ref h0] (pw_s D cI cJ cZ cO sz [(h0, snC n0 k0 g0 sv h1 h2 h7), (h1, tmC tv), (h2, boC h3 h5 bv), (h3, mkC h4), (h4, .inl (cJ, 4, .inr (.inl f))), (h5, mkC h6), (h6, .inl (cJ, 4, .inr (.inl g))), (h7, cuC cv)])) (va_Qi (fun (r : Int32) (_ : Unit) => ((True) ∧ r = (xc_loss n0 k0 g0 sv tv bv cv f g).2.2.2.2.2.2)) (fun (_ : Unit) (t : State) => ∃ (sv2 tv2 bv2 cv2 : Nat → Int32) (f2 g2 : Nat → Int64), (sv2 = (xc_loss n0 k0 g0 sv tv bv cv f g).1 ∧ tv2 = (xc_loss n0 k0 g0 sv tv bv cv f g).2.1 ∧ bv2 = (xc_loss n0 k0 g0 sv tv bv cv f g).2.2.1 ∧ cv2 = (xc_loss n0 k0 g0 sv tv bv cv f g).2.2.2.1 ∧ f2 = (xc_loss n0 k0 g0 sv tv bv cv f g).2.2.2.2.1 ∧ g2 = (xc_loss n0 k0 g0 sv tv bv cv f g).2.2.2.2.2.1) ∧ pw_t D cI cJ cZ cO (va_A [(h0, snC n0 k0 g0 sv h1 h2 h7), (h1, tmC tv), (h2, boC h3 h5 bv), (h3, mkC h4), (h4, .inl (cJ, 4, .inr (.inl f))), (h5, mkC h6), (h6, .inl (cJ, 4, .inr (.inl g))), (h7, cuC cv)] sz) [(h0, snC n0 k0 g0 sv2 h1 h2 h7), (h1, tmC tv2), (h2, boC h3 h5 bv2), (h3, mkC h4), (h4, .inl (cJ, 4, .inr (.inl f2))), (h5, mkC h6), (h6, .inl (cJ, 4, .inr (.inl g2))), (h7, cuC cv2)] t) (va_A [(h0, snC n0 k0 g0 sv h1 h2 h7), (h1, tmC tv), (h2, boC h3 h5 bv), (h3, mkC h4), (h4, .inl (cJ, 4, .inr (.inl f))), (h5, mkC h6), (h6, .inl (cJ, 4, .inr (.inl g))), (h7, cuC cv)] sz)) 0 0 (va_A [(h0, snC n0 k0 g0 sv h1 h2 h7), (h1, tmC tv), (h2, boC h3 h5 bv), (h3, mkC h4), (h4, .inl (cJ, 4, .inr (.inl f))), (h5, mkC h6), (h6, .inl (cJ, 4, .inr (.inl g))), (h7, cuC cv)] sz) := by
  refine Met.ofW (cc := cX8_lossThreshold) (maxL := 1) (ret := (some .int)) (by decide) rfl ?_
  intro p e s m args below meth c s₁ B hml hv
  obtain ⟨rfl, hsz, hP, hK, hD0, hN⟩ := hv
  have hx := B.exec
  have hb := B.bytes
  have hr := B.returns
  have hts := atoms_spec (ws := (wa yX8_lossThreshold cX8_lossThreshold 1 (some .int))) B.pre
  have ha : ∀ w ∈ wsL_law, w.before _ s = true := fun w h => hts w (List.mem_cons_of_mem _ h)
  have hown : s.vm.findClass RX8 = some m.cls := findClass_of_methodNamed B.named
  have hlocks := B.notSynchronized
  subst hsz
  have hD := hD0.self (sz := s.heap.size)
  generalize hAe : va_A [(h0, snC n0 k0 g0 sv h1 h2 h7), (h1, tmC tv), (h2, boC h3 h5 bv), (h3, mkC h4), (h4, .inl (cJ, 4, .inr (.inl f))), (h5, mkC h6), (h6, .inl (cJ, 4, .inr (.inl g))), (h7, cuC cv)] s.heap.size = A at hD ⊢
  have hA : ∀ q : Nat, s.heap.size ≤ q → A q := fun q h => by rw [← hAe]; exact Or.inr h
  have hS : va_S A s.heap s.heap [] := va_S.rf
  have hP : va_P D vwCl [(h0, snC n0 k0 g0 sv h1 h2 h7), (h1, tmC tv), (h2, boC h3 h5 bv), (h3, mkC h4), (h4, .inl (cJ, 4, .inr (.inl f))), (h5, mkC h6), (h6, .inl (cJ, 4, .inr (.inl g))), (h7, cuC cv)] s.heap := hP
  have hl := lv_entry ([.ref h0]) (n := 1) (Nat.le_of_ble_eq_true rfl)
  rw [lg_entry_eq]
  generalize (lg_sl ([.ref h0]) ++ List.replicate (1 - (lg_sl ([.ref h0])).length) Slot.unset).toArray = ls at hl ⊢
  have hl : lv_has ls 1 [(0, .ref h0)] := hl
  obtain ⟨QP, hQP⟩ : ∃ y : State → Prop, y = (MQ below (va_Qi (fun (r : Int32) (_ : Unit) => ((True) ∧ r = (xc_loss n0 k0 g0 sv tv bv cv f g).2.2.2.2.2.2)) (fun (_ : Unit) (t : State) => ∃ (sv2 tv2 bv2 cv2 : Nat → Int32) (f2 g2 : Nat → Int64), (sv2 = (xc_loss n0 k0 g0 sv tv bv cv f g).1 ∧ tv2 = (xc_loss n0 k0 g0 sv tv bv cv f g).2.1 ∧ bv2 = (xc_loss n0 k0 g0 sv tv bv cv f g).2.2.1 ∧ cv2 = (xc_loss n0 k0 g0 sv tv bv cv f g).2.2.2.1 ∧ f2 = (xc_loss n0 k0 g0 sv tv bv cv f g).2.2.2.2.1 ∧ g2 = (xc_loss n0 k0 g0 sv tv bv cv f g).2.2.2.2.2.1) ∧ pw_t D cI cJ cZ cO A [(h0, snC n0 k0 g0 sv2 h1 h2 h7), (h1, tmC tv2), (h2, boC h3 h5 bv2), (h3, mkC h4), (h4, .inl (cJ, 4, .inr (.inl f2))), (h5, mkC h6), (h6, .inl (cJ, 4, .inr (.inl g2))), (h7, cuC cv2)] t) A) #[(.ref h0 : Value)] s 0 0 A) := ⟨_, rfl⟩
  obtain ⟨RES, hRES⟩ : ∃ y, y = (xc_loss n0 k0 g0 sv tv bv cv f g) := ⟨_, rfl⟩
  -- from the entry
  have hE := hRES
  unfold xc_loss at hE
  refine lv_aload_n hx hb dX8_lossThreshold_0 rfl (lv_at hl 0 rfl) ?_
  refine va_get (D := D) (ci := 8) (v := .int k0) (C := RX8) (T := TX8) (N := 20) hx hb ha inlX8 hown hK hP 0 rfl rfl 1 (by decide) (ha _ kf_X8_49) (fun _ h9 => h9) rfl dX8_lossThreshold_1 ?_
  refine lv_iconst (v := 2) hx hb dX8_lossThreshold_4 (by decide) ?_
  refine lv_icmp_ne (tgt := 20) hx hb dX8_lossThreshold_5 (by decide) (fun c_10 => ?_) (fun c_10 => ?_)
  · have hE := hE.trans (if_neg c_10)
    refine lv_sipush (v := 2048) hx hb dX8_lossThreshold_20 (by decide) ?_
    refine lv_aload_n hx hb dX8_lossThreshold_23 rfl (lv_at hl 0 rfl) ?_
    refine va_get (D := D) (ci := 8) (v := .int (sv 4)) (C := RX8) (T := TX8) (N := 20) hx hb ha inlX8 hown hK hP 0 rfl rfl 4 (by decide) (ha _ kf_X8_65) (fun _ h9 => h9) rfl dX8_lossThreshold_24 ?_
    refine lv_topi (fun x_11 ex_11 => ?_)
    have hE := bd_at ex_11 hE
    refine lv_aload_n hx hb dX8_lossThreshold_27 rfl (lv_at hl 0 rfl) ?_
    refine va_get (D := D) (ci := 8) (v := .int (sv 3)) (C := RX8) (T := TX8) (N := 20) hx hb ha inlX8 hown hK hP 0 rfl rfl 3 (by decide) (ha _ kf_X8_59) (fun _ h9 => h9) rfl dX8_lossThreshold_28 ?_
    refine lv_topi (fun x_12 ex_12 => ?_)
    have hE := bd_at ex_12 hE
    refine lv_isub hx hb dX8_lossThreshold_31 ?_
    refine lv_topi (fun x_13 ex_13 => ?_)
    have hE := bd_at ex_13 hE
    refine lv_sipush (v := 512) hx hb dX8_lossThreshold_32 (by decide) ?_
    refine lv_imul hx hb dX8_lossThreshold_35 ?_
    refine lv_topi (fun x_14 ex_14 => ?_)
    have hE := bd_at ex_14 hE
    refine va_mmax hx hb (hml.trans hl.1.symm) hown (ha _ kl_X8_191) (ha _ kt_max) (ha _ kz_J9) (ha _ kd_max) (Nat.le_of_ble_eq_true rfl) (Nat.le_of_ble_eq_true rfl) (Nat.le_of_ble_eq_true rfl) (Nat.le_of_ble_eq_true rfl) dX8_lossThreshold_36 ?_
    refine lv_topi (fun x_15 ex_15 => ?_)
    have hE := bd_at ex_15 hE
    have hP9 := hP.sub (ws' := [(h0, snC n0 k0 g0 sv h1 h2 h7), (h1, tmC tv), (h2, boC h3 h5 bv), (h3, mkC h4), (h4, .inl (cJ, 4, .inr (.inl f))), (h5, mkC h6), (h6, .inl (cJ, 4, .inr (.inl g))), (h7, cuC cv)]) [0, 1, 2, 3, 4, 5, 6, 7] rfl
    have hD9 := hD.sub (ws' := [(h0, snC n0 k0 g0 sv h1 h2 h7), (h1, tmC tv), (h2, boC h3 h5 bv), (h3, mkC h4), (h4, .inl (cJ, 4, .inr (.inl f))), (h5, mkC h6), (h6, .inl (cJ, 4, .inr (.inl g))), (h7, cuC cv)]) [0, 1, 2, 3, 4, 5, 6, 7] (by decide) rfl
    exact W.iret (v := x_15) hx hb hr (fun t ht hW => ⟨⟨x_15, (), rfl, ⟨(by decide), (by rw [← hRES, hE])⟩, ⟨sv, tv, bv, cv, f, g, ⟨(by rw [← hRES, hE]), (by rw [← hRES, hE]), (by rw [← hRES, hE]), (by rw [← hRES, hE]), (by rw [← hRES, hE]), (by rw [← hRES, hE])⟩, by rw [ht]; exact hP9, va_K.moved hW.alike hK, hD9⟩⟩, hS.F ht⟩) hS.2.2 dX8_lossThreshold_39
  · have hE := hE.trans (if_pos c_10)
    refine lv_aload_n hx hb dX8_lossThreshold_8 rfl (lv_at hl 0 rfl) ?_
    refine va_get (D := D) (ci := 8) (v := .ref h7) (C := RX8) (T := TX8) (N := 20) hx hb ha inlX8 hown hK hP 0 rfl rfl 19 (by decide) (ha _ kf_X8_42) (fun _ h9 => h9) rfl dX8_lossThreshold_9 ?_
    refine lv_aload_n hx hb dX8_lossThreshold_12 rfl (lv_at hl 0 rfl) ?_
    refine va_get (D := D) (ci := 8) (v := .int (sv 6)) (C := RX8) (T := TX8) (N := 20) hx hb ha inlX8 hown hK hP 0 rfl rfl 6 (by decide) (ha _ kf_X8_9) (fun _ h9 => h9) rfl dX8_lossThreshold_13 ?_
    refine lv_topi (fun x_16 ex_16 => ?_)
    have hE := bd_at ex_16 hE
    have hPc := hP.sub (ws' := [(h7, cuC cv)]) [7] rfl
    have hDc := hD.sub (ws' := [(h7, cuC cv)]) [7] (by decide) rfl
    have hFc := va_free (wc := [(h7, cuC cv)]) hD hS hA [7] rfl
    refine va_calli (va_runV (As := [.int x_16]) (rest := []) ⟨hx, hb, hml, hown, ha⟩ (s_closs l D cI cJ cZ cO _ h7 cv x_16) (cwV 1 ha (gaV kl_X8_232 km_X2_noteLoss ks_X2_noteLoss kz_X2 kd_X2_noteLoss) rfl rfl rfl (by decide +kernel) ⟨Nat.le_of_ble_eq_true rfl, Nat.le_of_ble_eq_true rfl⟩) ⟨pw_blind, va_recv hK hPc (ci := 2) (q0 := 0) rfl rfl, fun U hU hW => ⟨rfl, pw_start hU hW hPc hK hDc hN⟩⟩ rfl rfl hl.1 rfl (lv_room (Nat.le_of_ble_eq_true rfl)) dX8_lossThreshold_16 ⟨Nat.le_of_ble_eq_true rfl, Nat.le_of_ble_eq_true rfl⟩) hS (fun q _ h => hFc q h) hFc (fun r_17 u t H1 locs ht hvm hw hB hz1 hk1 hS => ?_)
    obtain ⟨cv, hX0, hP1, hK1, hD1⟩ := hB
    have hE := bd_at rfl hE
    have hE := bd_at hX0 hE
    have hE := bd_at hw.2 hE
    rw [ht] at hP1
    obtain ⟨hP, hD⟩ := va_join (wr := [(h0, snC n0 k0 g0 sv h1 h2 h7), (h1, tmC tv), (h2, boC h3 h5 bv), (h3, mkC h4), (h4, .inl (cJ, 4, .inr (.inl f))), (h5, mkC h6), (h6, .inl (cJ, 4, .inr (.inl g)))]) (w1 := [(h7, cuC cv)]) hP hD [7] [0, 1, 2, 3, 4, 5, 6] rfl rfl (by decide) (by decide) hk1 hFc hP1 hD1
    generalize H1 = H at hP hS ⊢
    have hP : va_P D vwCl [(h0, snC n0 k0 g0 sv h1 h2 h7), (h1, tmC tv), (h2, boC h3 h5 bv), (h3, mkC h4), (h4, .inl (cJ, 4, .inr (.inl f))), (h5, mkC h6), (h6, .inl (cJ, 4, .inr (.inl g))), (h7, cuC cv)] H := hP
    have hD : va_D A [(h0, snC n0 k0 g0 sv h1 h2 h7), (h1, tmC tv), (h2, boC h3 h5 bv), (h3, mkC h4), (h4, .inl (cJ, 4, .inr (.inl f))), (h5, mkC h6), (h6, .inl (cJ, 4, .inr (.inl g))), (h7, cuC cv)] := hD
    refine W.widen (k := 0) (n := 0) (Nat.le_of_ble_eq_true rfl) (Nat.le_of_ble_eq_true rfl) ?_
    have hr_17 := hw.1
    have hP9 := hP.sub (ws' := [(h0, snC n0 k0 g0 sv h1 h2 h7), (h1, tmC tv), (h2, boC h3 h5 bv), (h3, mkC h4), (h4, .inl (cJ, 4, .inr (.inl f))), (h5, mkC h6), (h6, .inl (cJ, 4, .inr (.inl g))), (h7, cuC cv)]) [0, 1, 2, 3, 4, 5, 6, 7] rfl
    have hD9 := hD.sub (ws' := [(h0, snC n0 k0 g0 sv h1 h2 h7), (h1, tmC tv), (h2, boC h3 h5 bv), (h3, mkC h4), (h4, .inl (cJ, 4, .inr (.inl f))), (h5, mkC h6), (h6, .inl (cJ, 4, .inr (.inl g))), (h7, cuC cv)]) [0, 1, 2, 3, 4, 5, 6, 7] (by decide) rfl
    exact W.iret (v := r_17) hx hb hr (fun t ht hW => ⟨⟨r_17, (), rfl, ⟨(by decide), (by rw [← hRES, hE])⟩, ⟨sv, tv, bv, cv, f, g, ⟨(by rw [← hRES, hE]), (by rw [← hRES, hE]), (by rw [← hRES, hE]), (by rw [← hRES, hE]), (by rw [← hRES, hE]), (by rw [← hRES, hE])⟩, by rw [ht]; exact hP9, va_K.moved hW.alike hK, hD9⟩⟩, hS.F ht⟩) hS.2.2 dX8_lossThreshold_19

set_option maxRecDepth 100000 in
def xc_timeOut (n0 : Int32) (k0 : Int32) (g0 : Int32) (sv : Nat → Int32) (tv : Nat → Int32) (bv : Nat → Int32) (cv : Nat → Int32) (f : Nat → Int64) (g : Nat → Int64) : (Nat → Int32) × (Nat → Int32) × (Nat → Int32) × (Nat → Int32) × (Nat → Int64) × (Nat → Int64) := bd (xc_loss n0 k0 g0 sv tv bv cv f g) (fun t1 => bd (t1.1) (fun sv => bd (t1.2.1) (fun tv => bd (t1.2.2.1) (fun bv => bd (t1.2.2.2.1) (fun cv => bd (t1.2.2.2.2.1) (fun f => bd (t1.2.2.2.2.2.1) (fun g => bd (t1.2.2.2.2.2.2) (fun v2 => bd (upd sv 8 v2) (fun sv => bd (xc_setCwnd n0 k0 g0 sv tv bv cv f g (1024 : Int32)) (fun t3 => bd (t3.1) (fun sv => bd (t3.2.1) (fun tv => bd (t3.2.2.1) (fun bv => bd (t3.2.2.2.1) (fun cv => bd (t3.2.2.2.2.1) (fun f => bd (t3.2.2.2.2.2) (fun g => bd (xc_tdouble tv) (fun t4 => bd (t4) (fun tv => bd (sv 13) (fun v5 => bd (v5 + (1 : Int32)) (fun v6 => bd (upd sv 13 v6) (fun sv => bd (upd sv 11 (0 : Int32)) (fun sv => bd (upd sv 10 (0 : Int32)) (fun sv => bd (sv 5) (fun v7 => bd (upd sv 12 v7) (fun sv => bd (sv 3) (fun v8 => bd (upd sv 4 v8) (fun sv => bd (xc_bforget bv f g) (fun t9 => bd (t9.1) (fun bv => bd (t9.2.1) (fun f => bd (t9.2.2) (fun g => (sv, tv, bv, cv, f, g))))))))))))))))))))))))))))))))
set_option maxHeartbeats 4000000 in
set_option maxRecDepth 100000 in
theorem s_timeOut (l : Launch) (D : va_G) (cI cJ cZ cO : ClassId) (sz : Nat) (h0 h1 h2 h3 h4 h5 h6 h7 : Nat) (n0 k0 g0 : Int32) (sv tv bv cv : Nat → Int32) (f g : Nat → Int64) : Met l yX8_timeOut (wa yX8_timeOut cX8_timeOut 1 none) ({ frames := 3, cells := 0, slots := 0, locals := 81 }) (va_Pc [.ref h0] (pw_s D cI cJ cZ cO sz [(h0, snC n0 k0 g0 sv h1 h2 h7), (h1, tmC tv), (h2, boC h3 h5 bv), (h3, mkC h4), (h4, .inl (cJ, 4, .inr (.inl f))), (h5, mkC h6), (h6, .inl (cJ, 4, .inr (.inl g))), (h7, cuC cv)])) (va_Qv (fun (_ : Unit) => True) (fun (_ : Unit) (t : State) => ∃ (sv2 tv2 bv2 cv2 : Nat → Int32) (f2 g2 : Nat → Int64), (sv2 = (xc_timeOut n0 k0 g0 sv tv bv cv f g).1 ∧ tv2 = (xc_timeOut n0 k0 g0 sv tv bv cv f g).2.1 ∧ bv2 = (xc_timeOut n0 k0 g0 sv tv bv cv f g).2.2.1 ∧ cv2 = (xc_timeOut n0 k0 g0 sv tv bv cv f g).2.2.2.1 ∧ f2 = (xc_timeOut n0 k0 g0 sv tv bv cv f g).2.2.2.2.1 ∧ g2 = (xc_timeOut n0 k0 g0 sv tv bv cv f g).2.2.2.2.2) ∧ pw_t D cI cJ cZ cO (va_A [(h0, snC n0 k0 g0 sv h1 h2 h7), (h1, tmC tv), (h2, boC h3 h5 bv), (h3, mkC h4), (h4, .inl (cJ, 4, .inr (.inl f))), (h5, mkC h6), (h6, .inl (cJ, 4, .inr (.inl g))), (h7, cuC cv)] sz) [(h0, snC n0 k0 g0 sv2 h1 h2 h7), (h1, tmC tv2), (h2, boC h3 h5 bv2), (h3, mkC h4), (h4, .inl (cJ, 4, .inr (.inl f2))), (h5, mkC h6), (h6, .inl (cJ, 4, .inr (.inl g2))), (h7, cuC cv2)] t) (va_A [(h0, snC n0 k0 g0 sv h1 h2 h7), (h1, tmC tv), (h2, boC h3 h5 bv), (h3, mkC h4), (h4, .inl (cJ, 4, .inr (.inl f))), (h5, mkC h6), (h6, .inl (cJ, 4, .inr (.inl g))), (h7, cuC cv)] sz)) 0 0 (va_A [(h0, snC n0 k0 g0 sv h1 h2 h7), (h1, tmC tv), (h2, boC h3 h5 bv), (h3, mkC h4), (h4, .inl (cJ, 4, .inr (.inl f))), (h5, mkC h6), (h6, .inl (cJ, 4, .inr (.inl g))), (h7, cuC cv)] sz) := by
  refine Met.ofW (cc := cX8_timeOut) (maxL := 1) (ret := none) (by decide) rfl ?_
  intro p e s m args below meth c s₁ B hml hv
  obtain ⟨rfl, hsz, hP, hK, hD0, hN⟩ := hv
  have hx := B.exec
  have hb := B.bytes
  have hr := B.returns
  have hts := atoms_spec (ws := (wa yX8_timeOut cX8_timeOut 1 none)) B.pre
  have ha : ∀ w ∈ wsL_law, w.before _ s = true := fun w h => hts w (List.mem_cons_of_mem _ h)
  have hown : s.vm.findClass RX8 = some m.cls := findClass_of_methodNamed B.named
  have hlocks := B.notSynchronized
  subst hsz
  have hD := hD0.self (sz := s.heap.size)
  generalize hAe : va_A [(h0, snC n0 k0 g0 sv h1 h2 h7), (h1, tmC tv), (h2, boC h3 h5 bv), (h3, mkC h4), (h4, .inl (cJ, 4, .inr (.inl f))), (h5, mkC h6), (h6, .inl (cJ, 4, .inr (.inl g))), (h7, cuC cv)] s.heap.size = A at hD ⊢
  have hA : ∀ q : Nat, s.heap.size ≤ q → A q := fun q h => by rw [← hAe]; exact Or.inr h
  have hS : va_S A s.heap s.heap [] := va_S.rf
  have hP : va_P D vwCl [(h0, snC n0 k0 g0 sv h1 h2 h7), (h1, tmC tv), (h2, boC h3 h5 bv), (h3, mkC h4), (h4, .inl (cJ, 4, .inr (.inl f))), (h5, mkC h6), (h6, .inl (cJ, 4, .inr (.inl g))), (h7, cuC cv)] s.heap := hP
  have hl := lv_entry ([.ref h0]) (n := 1) (Nat.le_of_ble_eq_true rfl)
  rw [lg_entry_eq]
  generalize (lg_sl ([.ref h0]) ++ List.replicate (1 - (lg_sl ([.ref h0])).length) Slot.unset).toArray = ls at hl ⊢
  have hl : lv_has ls 1 [(0, .ref h0)] := hl
  obtain ⟨QP, hQP⟩ : ∃ y : State → Prop, y = (MQ below (va_Qv (fun (_ : Unit) => True) (fun (_ : Unit) (t : State) => ∃ (sv2 tv2 bv2 cv2 : Nat → Int32) (f2 g2 : Nat → Int64), (sv2 = (xc_timeOut n0 k0 g0 sv tv bv cv f g).1 ∧ tv2 = (xc_timeOut n0 k0 g0 sv tv bv cv f g).2.1 ∧ bv2 = (xc_timeOut n0 k0 g0 sv tv bv cv f g).2.2.1 ∧ cv2 = (xc_timeOut n0 k0 g0 sv tv bv cv f g).2.2.2.1 ∧ f2 = (xc_timeOut n0 k0 g0 sv tv bv cv f g).2.2.2.2.1 ∧ g2 = (xc_timeOut n0 k0 g0 sv tv bv cv f g).2.2.2.2.2) ∧ pw_t D cI cJ cZ cO A [(h0, snC n0 k0 g0 sv2 h1 h2 h7), (h1, tmC tv2), (h2, boC h3 h5 bv2), (h3, mkC h4), (h4, .inl (cJ, 4, .inr (.inl f2))), (h5, mkC h6), (h6, .inl (cJ, 4, .inr (.inl g2))), (h7, cuC cv2)] t) A) #[(.ref h0 : Value)] s 0 0 A) := ⟨_, rfl⟩
  obtain ⟨RES, hRES⟩ : ∃ y, y = (xc_timeOut n0 k0 g0 sv tv bv cv f g) := ⟨_, rfl⟩
  -- from the entry
  have hE := hRES
  unfold xc_timeOut at hE
  refine lv_aload_n hx hb dX8_timeOut_0 rfl (lv_at hl 0 rfl) ?_
  refine lv_aload_n hx hb dX8_timeOut_1 rfl (lv_at hl 0 rfl) ?_
  have hPc := hP.sub (ws' := [(h0, snC n0 k0 g0 sv h1 h2 h7), (h1, tmC tv), (h2, boC h3 h5 bv), (h3, mkC h4), (h4, .inl (cJ, 4, .inr (.inl f))), (h5, mkC h6), (h6, .inl (cJ, 4, .inr (.inl g))), (h7, cuC cv)]) [0, 1, 2, 3, 4, 5, 6, 7] rfl
  have hDc := hD.sub (ws' := [(h0, snC n0 k0 g0 sv h1 h2 h7), (h1, tmC tv), (h2, boC h3 h5 bv), (h3, mkC h4), (h4, .inl (cJ, 4, .inr (.inl f))), (h5, mkC h6), (h6, .inl (cJ, 4, .inr (.inl g))), (h7, cuC cv)]) [0, 1, 2, 3, 4, 5, 6, 7] (by decide) rfl
  have hFc := va_free (wc := [(h0, snC n0 k0 g0 sv h1 h2 h7), (h1, tmC tv), (h2, boC h3 h5 bv), (h3, mkC h4), (h4, .inl (cJ, 4, .inr (.inl f))), (h5, mkC h6), (h6, .inl (cJ, 4, .inr (.inl g))), (h7, cuC cv)]) hD hS hA [0, 1, 2, 3, 4, 5, 6, 7] rfl
  refine va_calli (va_runV (As := []) (rest := [.ref h0]) ⟨hx, hb, hml, hown, ha⟩ (s_loss l D cI cJ cZ cO _ h0 h1 h2 h3 h4 h5 h6 h7 n0 k0 g0 sv tv bv cv f g) (cwV 0 ha (gaV kl_X8_224 km_X8_lossThreshold ks_X8_lossThreshold kz_X8 kd_X8_lossThreshold) rfl rfl rfl (by decide +kernel) ⟨Nat.le_of_ble_eq_true rfl, Nat.le_of_ble_eq_true rfl⟩) ⟨pw_blind, va_recv hK hPc (ci := 8) (q0 := 0) rfl rfl, fun U hU hW => ⟨rfl, pw_start hU hW hPc hK hDc hN⟩⟩ rfl rfl hl.1 rfl (lv_room (Nat.le_of_ble_eq_true rfl)) dX8_timeOut_2 ⟨Nat.le_of_ble_eq_true rfl, Nat.le_of_ble_eq_true rfl⟩) hS (fun q _ h => hFc q h) hFc (fun r_31 u t H1 locs ht hvm hw hB hz1 hk1 hS => ?_)
  obtain ⟨sv, tv, bv, cv, f, g, ⟨hX0, hX1, hX2, hX3, hX4, hX5⟩, hP1, hK1, hD1⟩ := hB
  have hE := bd_at rfl hE
  have hE := bd_at hX0 hE
  have hE := bd_at hX1 hE
  have hE := bd_at hX2 hE
  have hE := bd_at hX3 hE
  have hE := bd_at hX4 hE
  have hE := bd_at hX5 hE
  have hE := bd_at hw.2 hE
  rw [ht] at hP1
  obtain ⟨hP, hD⟩ := va_join (wr := []) (w1 := [(h0, snC n0 k0 g0 sv h1 h2 h7), (h1, tmC tv), (h2, boC h3 h5 bv), (h3, mkC h4), (h4, .inl (cJ, 4, .inr (.inl f))), (h5, mkC h6), (h6, .inl (cJ, 4, .inr (.inl g))), (h7, cuC cv)]) hP hD [0, 1, 2, 3, 4, 5, 6, 7] [] rfl rfl (by decide) (by decide) hk1 hFc hP1 hD1
  generalize H1 = H at hP hS ⊢
  have hP : va_P D vwCl [(h0, snC n0 k0 g0 sv h1 h2 h7), (h1, tmC tv), (h2, boC h3 h5 bv), (h3, mkC h4), (h4, .inl (cJ, 4, .inr (.inl f))), (h5, mkC h6), (h6, .inl (cJ, 4, .inr (.inl g))), (h7, cuC cv)] H := hP
  have hD : va_D A [(h0, snC n0 k0 g0 sv h1 h2 h7), (h1, tmC tv), (h2, boC h3 h5 bv), (h3, mkC h4), (h4, .inl (cJ, 4, .inr (.inl f))), (h5, mkC h6), (h6, .inl (cJ, 4, .inr (.inl g))), (h7, cuC cv)] := hD
  refine W.widen (k := 0) (n := 0) (Nat.le_of_ble_eq_true rfl) (Nat.le_of_ble_eq_true rfl) ?_
  have hr_31 := hw.1
  refine va_put (D := D) (ci := 8) (v := .int r_31) (ty := .int) (C := RX8) (T := TX8) (N := 20) hx hb ha inlX8 tyX8 tyX8_ok nmX8 hown hK hP hD hS 0 rfl rfl 8 (by decide) (ha _ kf_X8_19) (fun _ h9 => h9) rfl (by decide +kernel) rfl rfl (Nat.le_of_ble_eq_true rfl) dX8_timeOut_5 (fun H locs hP hD hS => ?_)
  have hP : va_P D vwCl [(h0, snC n0 k0 g0 (upd sv 8 r_31) h1 h2 h7), (h1, tmC tv), (h2, boC h3 h5 bv), (h3, mkC h4), (h4, .inl (cJ, 4, .inr (.inl f))), (h5, mkC h6), (h6, .inl (cJ, 4, .inr (.inl g))), (h7, cuC cv)] H := hP
  have hD : va_D A [(h0, snC n0 k0 g0 (upd sv 8 r_31) h1 h2 h7), (h1, tmC tv), (h2, boC h3 h5 bv), (h3, mkC h4), (h4, .inl (cJ, 4, .inr (.inl f))), (h5, mkC h6), (h6, .inl (cJ, 4, .inr (.inl g))), (h7, cuC cv)] := hD
  generalize hg_38 : upd sv 8 r_31 = sv at hP hD
  have hE := bs_at hg_38 hE
  refine lv_aload_n hx hb dX8_timeOut_8 rfl (lv_at hl 0 rfl) ?_
  refine lv_sipush (v := 1024) hx hb dX8_timeOut_9 (by decide) ?_
  have hPc := hP.sub (ws' := [(h0, snC n0 k0 g0 sv h1 h2 h7), (h1, tmC tv), (h2, boC h3 h5 bv), (h3, mkC h4), (h4, .inl (cJ, 4, .inr (.inl f))), (h5, mkC h6), (h6, .inl (cJ, 4, .inr (.inl g))), (h7, cuC cv)]) [0, 1, 2, 3, 4, 5, 6, 7] rfl
  have hDc := hD.sub (ws' := [(h0, snC n0 k0 g0 sv h1 h2 h7), (h1, tmC tv), (h2, boC h3 h5 bv), (h3, mkC h4), (h4, .inl (cJ, 4, .inr (.inl f))), (h5, mkC h6), (h6, .inl (cJ, 4, .inr (.inl g))), (h7, cuC cv)]) [0, 1, 2, 3, 4, 5, 6, 7] (by decide) rfl
  have hFc := va_free (wc := [(h0, snC n0 k0 g0 sv h1 h2 h7), (h1, tmC tv), (h2, boC h3 h5 bv), (h3, mkC h4), (h4, .inl (cJ, 4, .inr (.inl f))), (h5, mkC h6), (h6, .inl (cJ, 4, .inr (.inl g))), (h7, cuC cv)]) hD hS hA [0, 1, 2, 3, 4, 5, 6, 7] rfl
  refine va_callv (va_runV (As := [.int 1024]) (rest := []) ⟨hx, hb, hml, hown, ha⟩ (s_setCwnd l D cI cJ cZ cO _ h0 h1 h2 h3 h4 h5 h6 h7 n0 k0 g0 sv tv bv cv f g 1024) (cwV 1 ha (gaV kl_X8_219 km_X8_setCwnd ks_X8_setCwnd kz_X8 kd_X8_setCwnd) rfl rfl rfl (by decide +kernel) ⟨Nat.le_of_ble_eq_true rfl, Nat.le_of_ble_eq_true rfl⟩) ⟨pw_blind, va_recv hK hPc (ci := 8) (q0 := 0) rfl rfl, fun U hU hW => ⟨rfl, pw_start hU hW hPc hK hDc hN⟩⟩ rfl rfl hl.1 rfl (lv_room (Nat.le_of_ble_eq_true rfl)) dX8_timeOut_12 ⟨Nat.le_of_ble_eq_true rfl, Nat.le_of_ble_eq_true rfl⟩) hS (fun q _ h => hFc q h) hFc (fun u t H1 locs ht hvm hw hB hz1 hk1 hS => ?_)
  obtain ⟨sv, tv, bv, cv, f, g, ⟨hX0, hX1, hX2, hX3, hX4, hX5⟩, hP1, hK1, hD1⟩ := hB
  have hE := bd_at rfl hE
  have hE := bd_at hX0 hE
  have hE := bd_at hX1 hE
  have hE := bd_at hX2 hE
  have hE := bd_at hX3 hE
  have hE := bd_at hX4 hE
  have hE := bd_at hX5 hE
  rw [ht] at hP1
  obtain ⟨hP, hD⟩ := va_join (wr := []) (w1 := [(h0, snC n0 k0 g0 sv h1 h2 h7), (h1, tmC tv), (h2, boC h3 h5 bv), (h3, mkC h4), (h4, .inl (cJ, 4, .inr (.inl f))), (h5, mkC h6), (h6, .inl (cJ, 4, .inr (.inl g))), (h7, cuC cv)]) hP hD [0, 1, 2, 3, 4, 5, 6, 7] [] rfl rfl (by decide) (by decide) hk1 hFc hP1 hD1
  generalize H1 = H at hP hS ⊢
  have hP : va_P D vwCl [(h0, snC n0 k0 g0 sv h1 h2 h7), (h1, tmC tv), (h2, boC h3 h5 bv), (h3, mkC h4), (h4, .inl (cJ, 4, .inr (.inl f))), (h5, mkC h6), (h6, .inl (cJ, 4, .inr (.inl g))), (h7, cuC cv)] H := hP
  have hD : va_D A [(h0, snC n0 k0 g0 sv h1 h2 h7), (h1, tmC tv), (h2, boC h3 h5 bv), (h3, mkC h4), (h4, .inl (cJ, 4, .inr (.inl f))), (h5, mkC h6), (h6, .inl (cJ, 4, .inr (.inl g))), (h7, cuC cv)] := hD
  refine W.widen (k := 0) (n := 0) (Nat.le_of_ble_eq_true rfl) (Nat.le_of_ble_eq_true rfl) ?_
  refine lv_aload_n hx hb dX8_timeOut_15 rfl (lv_at hl 0 rfl) ?_
  refine va_get (D := D) (ci := 8) (v := .ref h1) (C := RX8) (T := TX8) (N := 20) hx hb ha inlX8 hown hK hP 0 rfl rfl 17 (by decide) (ha _ kf_X8_28) (fun _ h9 => h9) rfl dX8_timeOut_16 ?_
  have hPc := hP.sub (ws' := [(h1, tmC tv)]) [1] rfl
  have hDc := hD.sub (ws' := [(h1, tmC tv)]) [1] (by decide) rfl
  have hFc := va_free (wc := [(h1, tmC tv)]) hD hS hA [1] rfl
  refine va_callv (va_runV (As := []) (rest := []) ⟨hx, hb, hml, hown, ha⟩ (s_tdouble l D cI cJ cZ cO _ h1 tv) (cwV 0 ha (gaV kl_X8_206 km_X9_doubleRto ks_X9_doubleRto kz_X9 kd_X9_doubleRto) rfl rfl rfl (by decide +kernel) ⟨Nat.le_of_ble_eq_true rfl, Nat.le_of_ble_eq_true rfl⟩) ⟨pw_blind, va_recv hK hPc (ci := 9) (q0 := 0) rfl rfl, fun U hU hW => ⟨rfl, pw_start hU hW hPc hK hDc hN⟩⟩ rfl rfl hl.1 rfl (lv_room (Nat.le_of_ble_eq_true rfl)) dX8_timeOut_19 ⟨Nat.le_of_ble_eq_true rfl, Nat.le_of_ble_eq_true rfl⟩) hS (fun q _ h => hFc q h) hFc (fun u t H1 locs ht hvm hw hB hz1 hk1 hS => ?_)
  obtain ⟨tv, hX0, hP1, hK1, hD1⟩ := hB
  have hE := bd_at rfl hE
  have hE := bd_at hX0 hE
  rw [ht] at hP1
  obtain ⟨hP, hD⟩ := va_join (wr := [(h0, snC n0 k0 g0 sv h1 h2 h7), (h2, boC h3 h5 bv), (h3, mkC h4), (h4, .inl (cJ, 4, .inr (.inl f))), (h5, mkC h6), (h6, .inl (cJ, 4, .inr (.inl g))), (h7, cuC cv)]) (w1 := [(h1, tmC tv)]) hP hD [1] [0, 2, 3, 4, 5, 6, 7] rfl rfl (by decide) (by decide) hk1 hFc hP1 hD1
  generalize H1 = H at hP hS ⊢
  have hP : va_P D vwCl [(h0, snC n0 k0 g0 sv h1 h2 h7), (h2, boC h3 h5 bv), (h3, mkC h4), (h4, .inl (cJ, 4, .inr (.inl f))), (h5, mkC h6), (h6, .inl (cJ, 4, .inr (.inl g))), (h7, cuC cv), (h1, tmC tv)] H := hP
  have hD : va_D A [(h0, snC n0 k0 g0 sv h1 h2 h7), (h2, boC h3 h5 bv), (h3, mkC h4), (h4, .inl (cJ, 4, .inr (.inl f))), (h5, mkC h6), (h6, .inl (cJ, 4, .inr (.inl g))), (h7, cuC cv), (h1, tmC tv)] := hD
  refine W.widen (k := 0) (n := 0) (Nat.le_of_ble_eq_true rfl) (Nat.le_of_ble_eq_true rfl) ?_
  refine lv_aload_n hx hb dX8_timeOut_22 rfl (lv_at hl 0 rfl) ?_
  refine lv_dup hx hb dX8_timeOut_23 rfl ?_
  refine va_get (D := D) (ci := 8) (v := .int (sv 13)) (C := RX8) (T := TX8) (N := 20) hx hb ha inlX8 hown hK hP 0 rfl rfl 13 (by decide) (ha _ kf_X8_150) (fun _ h9 => h9) rfl dX8_timeOut_24 ?_
  refine lv_topi (fun x_48 ex_48 => ?_)
  have hE := bd_at ex_48 hE
  refine lv_iconst (v := 1) hx hb dX8_timeOut_27 (by decide) ?_
  refine lv_iadd hx hb dX8_timeOut_28 ?_
  refine lv_topi (fun x_49 ex_49 => ?_)
  have hE := bd_at ex_49 hE
  refine va_put (D := D) (ci := 8) (v := .int x_49) (ty := .int) (C := RX8) (T := TX8) (N := 20) hx hb ha inlX8 tyX8 tyX8_ok nmX8 hown hK hP hD hS 0 rfl rfl 13 (by decide) (ha _ kf_X8_150) (fun _ h9 => h9) rfl (by decide +kernel) rfl rfl (Nat.le_of_ble_eq_true rfl) dX8_timeOut_29 (fun H locs hP hD hS => ?_)
  have hP : va_P D vwCl [(h0, snC n0 k0 g0 (upd sv 13 x_49) h1 h2 h7), (h2, boC h3 h5 bv), (h3, mkC h4), (h4, .inl (cJ, 4, .inr (.inl f))), (h5, mkC h6), (h6, .inl (cJ, 4, .inr (.inl g))), (h7, cuC cv), (h1, tmC tv)] H := hP
  have hD : va_D A [(h0, snC n0 k0 g0 (upd sv 13 x_49) h1 h2 h7), (h2, boC h3 h5 bv), (h3, mkC h4), (h4, .inl (cJ, 4, .inr (.inl f))), (h5, mkC h6), (h6, .inl (cJ, 4, .inr (.inl g))), (h7, cuC cv), (h1, tmC tv)] := hD
  generalize hg_50 : upd sv 13 x_49 = sv at hP hD
  have hE := bs_at hg_50 hE
  refine lv_aload_n hx hb dX8_timeOut_32 rfl (lv_at hl 0 rfl) ?_
  refine lv_iconst (v := 0) hx hb dX8_timeOut_33 (by decide) ?_
  refine va_put (D := D) (ci := 8) (v := .int 0) (ty := .boolean) (C := RX8) (T := TX8) (N := 20) hx hb ha inlX8 tyX8 tyX8_ok nmX8 hown hK hP hD hS 0 rfl rfl 11 (by decide) (ha _ kf_X8_86) (fun _ h9 => h9) rfl (by decide +kernel) rfl rfl (Nat.le_of_ble_eq_true rfl) dX8_timeOut_34 (fun H locs hP hD hS => ?_)
  have hP : va_P D vwCl [(h0, snC n0 k0 g0 (upd sv 11 0) h1 h2 h7), (h2, boC h3 h5 bv), (h3, mkC h4), (h4, .inl (cJ, 4, .inr (.inl f))), (h5, mkC h6), (h6, .inl (cJ, 4, .inr (.inl g))), (h7, cuC cv), (h1, tmC tv)] H := hP
  have hD : va_D A [(h0, snC n0 k0 g0 (upd sv 11 0) h1 h2 h7), (h2, boC h3 h5 bv), (h3, mkC h4), (h4, .inl (cJ, 4, .inr (.inl f))), (h5, mkC h6), (h6, .inl (cJ, 4, .inr (.inl g))), (h7, cuC cv), (h1, tmC tv)] := hD
  generalize hg_51 : upd sv 11 0 = sv at hP hD
  have hE := bs_at hg_51 hE
  refine lv_aload_n hx hb dX8_timeOut_37 rfl (lv_at hl 0 rfl) ?_
  refine lv_iconst (v := 0) hx hb dX8_timeOut_38 (by decide) ?_
  refine va_put (D := D) (ci := 8) (v := .int 0) (ty := .int) (C := RX8) (T := TX8) (N := 20) hx hb ha inlX8 tyX8 tyX8_ok nmX8 hown hK hP hD hS 0 rfl rfl 10 (by decide) (ha _ kf_X8_93) (fun _ h9 => h9) rfl (by decide +kernel) rfl rfl (Nat.le_of_ble_eq_true rfl) dX8_timeOut_39 (fun H locs hP hD hS => ?_)
  have hP : va_P D vwCl [(h0, snC n0 k0 g0 (upd sv 10 0) h1 h2 h7), (h2, boC h3 h5 bv), (h3, mkC h4), (h4, .inl (cJ, 4, .inr (.inl f))), (h5, mkC h6), (h6, .inl (cJ, 4, .inr (.inl g))), (h7, cuC cv), (h1, tmC tv)] H := hP
  have hD : va_D A [(h0, snC n0 k0 g0 (upd sv 10 0) h1 h2 h7), (h2, boC h3 h5 bv), (h3, mkC h4), (h4, .inl (cJ, 4, .inr (.inl f))), (h5, mkC h6), (h6, .inl (cJ, 4, .inr (.inl g))), (h7, cuC cv), (h1, tmC tv)] := hD
  generalize hg_52 : upd sv 10 0 = sv at hP hD
  have hE := bs_at hg_52 hE
  refine lv_aload_n hx hb dX8_timeOut_42 rfl (lv_at hl 0 rfl) ?_
  refine lv_aload_n hx hb dX8_timeOut_43 rfl (lv_at hl 0 rfl) ?_
  refine va_get (D := D) (ci := 8) (v := .int (sv 5)) (C := RX8) (T := TX8) (N := 20) hx hb ha inlX8 hown hK hP 0 rfl rfl 5 (by decide) (ha _ kf_X8_79) (fun _ h9 => h9) rfl dX8_timeOut_44 ?_
  refine lv_topi (fun x_53 ex_53 => ?_)
  have hE := bd_at ex_53 hE
  refine va_put (D := D) (ci := 8) (v := .int x_53) (ty := .int) (C := RX8) (T := TX8) (N := 20) hx hb ha inlX8 tyX8 tyX8_ok nmX8 hown hK hP hD hS 0 rfl rfl 12 (by decide) (ha _ kf_X8_216) (fun _ h9 => h9) rfl (by decide +kernel) rfl rfl (Nat.le_of_ble_eq_true rfl) dX8_timeOut_47 (fun H locs hP hD hS => ?_)
  have hP : va_P D vwCl [(h0, snC n0 k0 g0 (upd sv 12 x_53) h1 h2 h7), (h2, boC h3 h5 bv), (h3, mkC h4), (h4, .inl (cJ, 4, .inr (.inl f))), (h5, mkC h6), (h6, .inl (cJ, 4, .inr (.inl g))), (h7, cuC cv), (h1, tmC tv)] H := hP
  have hD : va_D A [(h0, snC n0 k0 g0 (upd sv 12 x_53) h1 h2 h7), (h2, boC h3 h5 bv), (h3, mkC h4), (h4, .inl (cJ, 4, .inr (.inl f))), (h5, mkC h6), (h6, .inl (cJ, 4, .inr (.inl g))), (h7, cuC cv), (h1, tmC tv)] := hD
  generalize hg_54 : upd sv 12 x_53 = sv at hP hD
  have hE := bs_at hg_54 hE
  refine lv_aload_n hx hb dX8_timeOut_50 rfl (lv_at hl 0 rfl) ?_
  refine lv_aload_n hx hb dX8_timeOut_51 rfl (lv_at hl 0 rfl) ?_
  refine va_get (D := D) (ci := 8) (v := .int (sv 3)) (C := RX8) (T := TX8) (N := 20) hx hb ha inlX8 hown hK hP 0 rfl rfl 3 (by decide) (ha _ kf_X8_59) (fun _ h9 => h9) rfl dX8_timeOut_52 ?_
  refine lv_topi (fun x_55 ex_55 => ?_)
  have hE := bd_at ex_55 hE
  refine va_put (D := D) (ci := 8) (v := .int x_55) (ty := .int) (C := RX8) (T := TX8) (N := 20) hx hb ha inlX8 tyX8 tyX8_ok nmX8 hown hK hP hD hS 0 rfl rfl 4 (by decide) (ha _ kf_X8_65) (fun _ h9 => h9) rfl (by decide +kernel) rfl rfl (Nat.le_of_ble_eq_true rfl) dX8_timeOut_55 (fun H locs hP hD hS => ?_)
  have hP : va_P D vwCl [(h0, snC n0 k0 g0 (upd sv 4 x_55) h1 h2 h7), (h2, boC h3 h5 bv), (h3, mkC h4), (h4, .inl (cJ, 4, .inr (.inl f))), (h5, mkC h6), (h6, .inl (cJ, 4, .inr (.inl g))), (h7, cuC cv), (h1, tmC tv)] H := hP
  have hD : va_D A [(h0, snC n0 k0 g0 (upd sv 4 x_55) h1 h2 h7), (h2, boC h3 h5 bv), (h3, mkC h4), (h4, .inl (cJ, 4, .inr (.inl f))), (h5, mkC h6), (h6, .inl (cJ, 4, .inr (.inl g))), (h7, cuC cv), (h1, tmC tv)] := hD
  generalize hg_56 : upd sv 4 x_55 = sv at hP hD
  have hE := bs_at hg_56 hE
  refine lv_aload_n hx hb dX8_timeOut_58 rfl (lv_at hl 0 rfl) ?_
  refine va_get (D := D) (ci := 8) (v := .ref h2) (C := RX8) (T := TX8) (N := 20) hx hb ha inlX8 hown hK hP 0 rfl rfl 18 (by decide) (ha _ kf_X8_35) (fun _ h9 => h9) rfl dX8_timeOut_59 ?_
  have hPc := hP.sub (ws' := [(h2, boC h3 h5 bv), (h3, mkC h4), (h4, .inl (cJ, 4, .inr (.inl f))), (h5, mkC h6), (h6, .inl (cJ, 4, .inr (.inl g)))]) [1, 2, 3, 4, 5] rfl
  have hDc := hD.sub (ws' := [(h2, boC h3 h5 bv), (h3, mkC h4), (h4, .inl (cJ, 4, .inr (.inl f))), (h5, mkC h6), (h6, .inl (cJ, 4, .inr (.inl g)))]) [1, 2, 3, 4, 5] (by decide) rfl
  have hFc := va_free (wc := [(h2, boC h3 h5 bv), (h3, mkC h4), (h4, .inl (cJ, 4, .inr (.inl f))), (h5, mkC h6), (h6, .inl (cJ, 4, .inr (.inl g)))]) hD hS hA [1, 2, 3, 4, 5] rfl
  refine va_callv (va_runV (As := []) (rest := []) ⟨hx, hb, hml, hown, ha⟩ (s_bforget l D cI cJ cZ cO _ h2 h3 h4 h5 h6 bv f g) (cwV 0 ha (gaV kl_X8_229 km_X0_forget ks_X0_forget kz_X0 kd_X0_forget) rfl rfl rfl (by decide +kernel) ⟨Nat.le_of_ble_eq_true rfl, Nat.le_of_ble_eq_true rfl⟩) ⟨pw_blind, va_recv hK hPc (ci := 0) (q0 := 0) rfl rfl, fun U hU hW => ⟨rfl, pw_start hU hW hPc hK hDc hN⟩⟩ rfl rfl hl.1 rfl (lv_room (Nat.le_of_ble_eq_true rfl)) dX8_timeOut_62 ⟨Nat.le_of_ble_eq_true rfl, Nat.le_of_ble_eq_true rfl⟩) hS (fun q _ h => hFc q h) hFc (fun u t H1 locs ht hvm hw hB hz1 hk1 hS => ?_)
  obtain ⟨bv, f, g, ⟨hX0, hX1, hX2⟩, hP1, hK1, hD1⟩ := hB
  have hE := bd_at rfl hE
  have hE := bd_at hX0 hE
  have hE := bd_at hX1 hE
  have hE := bd_at hX2 hE
  rw [ht] at hP1
  obtain ⟨hP, hD⟩ := va_join (wr := [(h0, snC n0 k0 g0 sv h1 h2 h7), (h7, cuC cv), (h1, tmC tv)]) (w1 := [(h2, boC h3 h5 bv), (h3, mkC h4), (h4, .inl (cJ, 4, .inr (.inl f))), (h5, mkC h6), (h6, .inl (cJ, 4, .inr (.inl g)))]) hP hD [1, 2, 3, 4, 5] [0, 6, 7] rfl rfl (by decide) (by decide) hk1 hFc hP1 hD1
  generalize H1 = H at hP hS ⊢
  have hP : va_P D vwCl [(h0, snC n0 k0 g0 sv h1 h2 h7), (h7, cuC cv), (h1, tmC tv), (h2, boC h3 h5 bv), (h3, mkC h4), (h4, .inl (cJ, 4, .inr (.inl f))), (h5, mkC h6), (h6, .inl (cJ, 4, .inr (.inl g)))] H := hP
  have hD : va_D A [(h0, snC n0 k0 g0 sv h1 h2 h7), (h7, cuC cv), (h1, tmC tv), (h2, boC h3 h5 bv), (h3, mkC h4), (h4, .inl (cJ, 4, .inr (.inl f))), (h5, mkC h6), (h6, .inl (cJ, 4, .inr (.inl g)))] := hD
  refine W.widen (k := 0) (n := 0) (Nat.le_of_ble_eq_true rfl) (Nat.le_of_ble_eq_true rfl) ?_
  have hP9 := hP.sub (ws' := [(h0, snC n0 k0 g0 sv h1 h2 h7), (h1, tmC tv), (h2, boC h3 h5 bv), (h3, mkC h4), (h4, .inl (cJ, 4, .inr (.inl f))), (h5, mkC h6), (h6, .inl (cJ, 4, .inr (.inl g))), (h7, cuC cv)]) [0, 2, 3, 4, 5, 6, 7, 1] rfl
  have hD9 := hD.sub (ws' := [(h0, snC n0 k0 g0 sv h1 h2 h7), (h1, tmC tv), (h2, boC h3 h5 bv), (h3, mkC h4), (h4, .inl (cJ, 4, .inr (.inl f))), (h5, mkC h6), (h6, .inl (cJ, 4, .inr (.inl g))), (h7, cuC cv)]) [0, 2, 3, 4, 5, 6, 7, 1] (by decide) rfl
  exact W.vret hx hb hr (fun t ht hW => ⟨⟨(), rfl, trivial, ⟨sv, tv, bv, cv, f, g, ⟨(by rw [← hRES, hE]), (by rw [← hRES, hE]), (by rw [← hRES, hE]), (by rw [← hRES, hE]), (by rw [← hRES, hE]), (by rw [← hRES, hE])⟩, by rw [ht]; exact hP9, va_K.moved hW.alike hK, hD9⟩⟩, hS.F ht⟩) hS.2.2 dX8_timeOut_65

set_option maxRecDepth 100000 in
def xc_tellMore (n0 : Int32) (k0 : Int32) (g0 : Int32) (sv : Nat → Int32) (tv : Nat → Int32) (bv : Nat → Int32) (cv : Nat → Int32) (f : Nat → Int64) (g : Nat → Int64) (n1 : Int32) : (Nat → Int32) × (Nat → Int32) × (Nat → Int32) × (Nat → Int32) × (Nat → Int64) × (Nat → Int64) × Int32 := (if n1 = 10 then bd (sv 13) (fun v10 => (sv, tv, bv, cv, f, g, v10)) else (if n1 = 11 then bd (sv 14) (fun v9 => (sv, tv, bv, cv, f, g, v9)) else (if n1 = 12 then bd (sv 15) (fun v8 => (sv, tv, bv, cv, f, g, v8)) else (if n1 = 13 then bd (sv 9) (fun v7 => (sv, tv, bv, cv, f, g, v7)) else (if n1 = 14 then bd (tv 3) (fun v6 => (sv, tv, bv, cv, f, g, v6)) else (if n1 = 15 then bd (sv 16) (fun v5 => (sv, tv, bv, cv, f, g, v5)) else (if n1 = 16 then bd (cv 0) (fun v4 => (sv, tv, bv, cv, f, g, v4)) else (if n1 = 17 then bd (cv 1) (fun v3 => (sv, tv, bv, cv, f, g, v3)) else (if n1 = 18 then bd (xc_out n0 k0 g0 sv tv bv cv f g) (fun t1 => bd (t1.1) (fun sv => bd (t1.2.1) (fun tv => bd (t1.2.2.1) (fun bv => bd (t1.2.2.2.1) (fun cv => bd (t1.2.2.2.2.1) (fun f => bd (t1.2.2.2.2.2.1) (fun g => bd (t1.2.2.2.2.2.2) (fun v2 => (sv, tv, bv, cv, f, g, v2))))))))) else (sv, tv, bv, cv, f, g, ((-1) : Int32)))))))))))
set_option maxHeartbeats 4000000 in
set_option maxRecDepth 100000 in
theorem s_tellMore (l : Launch) (D : va_G) (cI cJ cZ cO : ClassId) (sz : Nat) (h0 h1 h2 h3 h4 h5 h6 h7 : Nat) (n0 k0 g0 : Int32) (sv tv bv cv : Nat → Int32) (f g : Nat → Int64) (n1 : Int32) : Met l yX8_tellMore (wa yX8_tellMore cX8_tellMore 2 (some .int)) ({ frames := 4, cells := 0, slots := 0, locals := 87 }) (va_Pc [.ref h0, .int n1] (pw_s D cI cJ cZ cO sz [(h0, snC n0 k0 g0 sv h1 h2 h7), (h1, tmC tv), (h2, boC h3 h5 bv), (h3, mkC h4), (h4, .inl (cJ, 4, .inr (.inl f))), (h5, mkC h6), (h6, .inl (cJ, 4, .inr (.inl g))), (h7, cuC cv)])) (va_Qi (fun (r : Int32) (_ : Unit) => ((True) ∧ r = (xc_tellMore n0 k0 g0 sv tv bv cv f g n1).2.2.2.2.2.2)) (fun (_ : Unit) (t : State) => ∃ (sv2 tv2 bv2 cv2 : Nat → Int32) (f2 g2 : Nat → Int64), (sv2 = (xc_tellMore n0 k0 g0 sv tv bv cv f g n1).1 ∧ tv2 = (xc_tellMore n0 k0 g0 sv tv bv cv f g n1).2.1 ∧ bv2 = (xc_tellMore n0 k0 g0 sv tv bv cv f g n1).2.2.1 ∧ cv2 = (xc_tellMore n0 k0 g0 sv tv bv cv f g n1).2.2.2.1 ∧ f2 = (xc_tellMore n0 k0 g0 sv tv bv cv f g n1).2.2.2.2.1 ∧ g2 = (xc_tellMore n0 k0 g0 sv tv bv cv f g n1).2.2.2.2.2.1) ∧ pw_t D cI cJ cZ cO (va_A [(h0, snC n0 k0 g0 sv h1 h2 h7), (h1, tmC tv), (h2, boC h3 h5 bv), (h3, mkC h4), (h4, .inl (cJ, 4, .inr (.inl f))), (h5, mkC h6), (h6, .inl (cJ, 4, .inr (.inl g))), (h7, cuC cv)] sz) [(h0, snC n0 k0 g0 sv2 h1 h2 h7), (h1, tmC tv2), (h2, boC h3 h5 bv2), (h3, mkC h4), (h4, .inl (cJ, 4, .inr (.inl f2))), (h5, mkC h6), (h6, .inl (cJ, 4, .inr (.inl g2))), (h7, cuC cv2)] t) (va_A [(h0, snC n0 k0 g0 sv h1 h2 h7), (h1, tmC tv), (h2, boC h3 h5 bv), (h3, mkC h4), (h4, .inl (cJ, 4, .inr (.inl f))), (h5, mkC h6), (h6, .inl (cJ, 4, .inr (.inl g))), (h7, cuC cv)] sz)) 0 0 (va_A [(h0, snC n0 k0 g0 sv h1 h2 h7), (h1, tmC tv), (h2, boC h3 h5 bv), (h3, mkC h4), (h4, .inl (cJ, 4, .inr (.inl f))), (h5, mkC h6), (h6, .inl (cJ, 4, .inr (.inl g))), (h7, cuC cv)] sz) := by
  refine Met.ofW (cc := cX8_tellMore) (maxL := 2) (ret := (some .int)) (by decide) rfl ?_
  intro p e s m args below meth c s₁ B hml hv
  obtain ⟨rfl, hsz, hP, hK, hD0, hN⟩ := hv
  have hx := B.exec
  have hb := B.bytes
  have hr := B.returns
  have hts := atoms_spec (ws := (wa yX8_tellMore cX8_tellMore 2 (some .int))) B.pre
  have ha : ∀ w ∈ wsL_law, w.before _ s = true := fun w h => hts w (List.mem_cons_of_mem _ h)
  have hown : s.vm.findClass RX8 = some m.cls := findClass_of_methodNamed B.named
  have hlocks := B.notSynchronized
  subst hsz
  have hD := hD0.self (sz := s.heap.size)
  generalize hAe : va_A [(h0, snC n0 k0 g0 sv h1 h2 h7), (h1, tmC tv), (h2, boC h3 h5 bv), (h3, mkC h4), (h4, .inl (cJ, 4, .inr (.inl f))), (h5, mkC h6), (h6, .inl (cJ, 4, .inr (.inl g))), (h7, cuC cv)] s.heap.size = A at hD ⊢
  have hA : ∀ q : Nat, s.heap.size ≤ q → A q := fun q h => by rw [← hAe]; exact Or.inr h
  have hS : va_S A s.heap s.heap [] := va_S.rf
  have hP : va_P D vwCl [(h0, snC n0 k0 g0 sv h1 h2 h7), (h1, tmC tv), (h2, boC h3 h5 bv), (h3, mkC h4), (h4, .inl (cJ, 4, .inr (.inl f))), (h5, mkC h6), (h6, .inl (cJ, 4, .inr (.inl g))), (h7, cuC cv)] s.heap := hP
  have hl := lv_entry ([.ref h0, .int n1]) (n := 2) (Nat.le_of_ble_eq_true rfl)
  rw [lg_entry_eq]
  generalize (lg_sl ([.ref h0, .int n1]) ++ List.replicate (2 - (lg_sl ([.ref h0, .int n1])).length) Slot.unset).toArray = ls at hl ⊢
  have hl : lv_has ls 2 [(0, .ref h0), (1, .int n1)] := hl
  obtain ⟨QP, hQP⟩ : ∃ y : State → Prop, y = (MQ below (va_Qi (fun (r : Int32) (_ : Unit) => ((True) ∧ r = (xc_tellMore n0 k0 g0 sv tv bv cv f g n1).2.2.2.2.2.2)) (fun (_ : Unit) (t : State) => ∃ (sv2 tv2 bv2 cv2 : Nat → Int32) (f2 g2 : Nat → Int64), (sv2 = (xc_tellMore n0 k0 g0 sv tv bv cv f g n1).1 ∧ tv2 = (xc_tellMore n0 k0 g0 sv tv bv cv f g n1).2.1 ∧ bv2 = (xc_tellMore n0 k0 g0 sv tv bv cv f g n1).2.2.1 ∧ cv2 = (xc_tellMore n0 k0 g0 sv tv bv cv f g n1).2.2.2.1 ∧ f2 = (xc_tellMore n0 k0 g0 sv tv bv cv f g n1).2.2.2.2.1 ∧ g2 = (xc_tellMore n0 k0 g0 sv tv bv cv f g n1).2.2.2.2.2.1) ∧ pw_t D cI cJ cZ cO A [(h0, snC n0 k0 g0 sv2 h1 h2 h7), (h1, tmC tv2), (h2, boC h3 h5 bv2), (h3, mkC h4), (h4, .inl (cJ, 4, .inr (.inl f2))), (h5, mkC h6), (h6, .inl (cJ, 4, .inr (.inl g2))), (h7, cuC cv2)] t) A) #[(.ref h0 : Value), (.int n1 : Value)] s 0 0 A) := ⟨_, rfl⟩
  obtain ⟨RES, hRES⟩ : ∃ y, y = (xc_tellMore n0 k0 g0 sv tv bv cv f g n1) := ⟨_, rfl⟩
  -- from the entry
  have hE := hRES
  unfold xc_tellMore at hE
  refine lv_iload_n hx hb dX8_tellMore_0 rfl (lv_at hl 1 rfl) ?_
  by_cases t_17_10 : n1 = 10
  · have hE := hE.trans (if_pos t_17_10)
    refine lv_tableIn (tgt := 52) (off := 51) hx hb dX8_tellMore_1 (by rw [t_17_10]; decide) (by rw [t_17_10]; decide) (by rw [t_17_10]; rfl) (by decide) ?_
    refine lv_aload_n hx hb dX8_tellMore_52 rfl (lv_at hl 0 rfl) ?_
    refine va_get (D := D) (ci := 8) (v := .int (sv 13)) (C := RX8) (T := TX8) (N := 20) hx hb ha inlX8 hown hK hP 0 rfl rfl 13 (by decide) (ha _ kf_X8_150) (fun _ h9 => h9) rfl dX8_tellMore_53 ?_
    refine lv_topi (fun x_18 ex_18 => ?_)
    have hE := bd_at ex_18 hE
    have hP9 := hP.sub (ws' := [(h0, snC n0 k0 g0 sv h1 h2 h7), (h1, tmC tv), (h2, boC h3 h5 bv), (h3, mkC h4), (h4, .inl (cJ, 4, .inr (.inl f))), (h5, mkC h6), (h6, .inl (cJ, 4, .inr (.inl g))), (h7, cuC cv)]) [0, 1, 2, 3, 4, 5, 6, 7] rfl
    have hD9 := hD.sub (ws' := [(h0, snC n0 k0 g0 sv h1 h2 h7), (h1, tmC tv), (h2, boC h3 h5 bv), (h3, mkC h4), (h4, .inl (cJ, 4, .inr (.inl f))), (h5, mkC h6), (h6, .inl (cJ, 4, .inr (.inl g))), (h7, cuC cv)]) [0, 1, 2, 3, 4, 5, 6, 7] (by decide) rfl
    exact W.iret (v := x_18) hx hb hr (fun t ht hW => ⟨⟨x_18, (), rfl, ⟨(by decide), (by rw [← hRES, hE])⟩, ⟨sv, tv, bv, cv, f, g, ⟨(by rw [← hRES, hE]), (by rw [← hRES, hE]), (by rw [← hRES, hE]), (by rw [← hRES, hE]), (by rw [← hRES, hE]), (by rw [← hRES, hE])⟩, by rw [ht]; exact hP9, va_K.moved hW.alike hK, hD9⟩⟩, hS.F ht⟩) hS.2.2 dX8_tellMore_56
  have hE := hE.trans (if_neg t_17_10)
  by_cases t_17_11 : n1 = 11
  · have hE := hE.trans (if_pos t_17_11)
    refine lv_tableIn (tgt := 57) (off := 56) hx hb dX8_tellMore_1 (by rw [t_17_11]; decide) (by rw [t_17_11]; decide) (by rw [t_17_11]; rfl) (by decide) ?_
    refine lv_aload_n hx hb dX8_tellMore_57 rfl (lv_at hl 0 rfl) ?_
    refine va_get (D := D) (ci := 8) (v := .int (sv 14)) (C := RX8) (T := TX8) (N := 20) hx hb ha inlX8 hown hK hP 0 rfl rfl 14 (by decide) (ha _ kf_X8_153) (fun _ h9 => h9) rfl dX8_tellMore_58 ?_
    refine lv_topi (fun x_19 ex_19 => ?_)
    have hE := bd_at ex_19 hE
    have hP9 := hP.sub (ws' := [(h0, snC n0 k0 g0 sv h1 h2 h7), (h1, tmC tv), (h2, boC h3 h5 bv), (h3, mkC h4), (h4, .inl (cJ, 4, .inr (.inl f))), (h5, mkC h6), (h6, .inl (cJ, 4, .inr (.inl g))), (h7, cuC cv)]) [0, 1, 2, 3, 4, 5, 6, 7] rfl
    have hD9 := hD.sub (ws' := [(h0, snC n0 k0 g0 sv h1 h2 h7), (h1, tmC tv), (h2, boC h3 h5 bv), (h3, mkC h4), (h4, .inl (cJ, 4, .inr (.inl f))), (h5, mkC h6), (h6, .inl (cJ, 4, .inr (.inl g))), (h7, cuC cv)]) [0, 1, 2, 3, 4, 5, 6, 7] (by decide) rfl
    exact W.iret (v := x_19) hx hb hr (fun t ht hW => ⟨⟨x_19, (), rfl, ⟨(by decide), (by rw [← hRES, hE])⟩, ⟨sv, tv, bv, cv, f, g, ⟨(by rw [← hRES, hE]), (by rw [← hRES, hE]), (by rw [← hRES, hE]), (by rw [← hRES, hE]), (by rw [← hRES, hE]), (by rw [← hRES, hE])⟩, by rw [ht]; exact hP9, va_K.moved hW.alike hK, hD9⟩⟩, hS.F ht⟩) hS.2.2 dX8_tellMore_61
  have hE := hE.trans (if_neg t_17_11)
  by_cases t_17_12 : n1 = 12
  · have hE := hE.trans (if_pos t_17_12)
    refine lv_tableIn (tgt := 62) (off := 61) hx hb dX8_tellMore_1 (by rw [t_17_12]; decide) (by rw [t_17_12]; decide) (by rw [t_17_12]; rfl) (by decide) ?_
    refine lv_aload_n hx hb dX8_tellMore_62 rfl (lv_at hl 0 rfl) ?_
    refine va_get (D := D) (ci := 8) (v := .int (sv 15)) (C := RX8) (T := TX8) (N := 20) hx hb ha inlX8 hown hK hP 0 rfl rfl 15 (by decide) (ha _ kf_X8_156) (fun _ h9 => h9) rfl dX8_tellMore_63 ?_
    refine lv_topi (fun x_20 ex_20 => ?_)
    have hE := bd_at ex_20 hE
    have hP9 := hP.sub (ws' := [(h0, snC n0 k0 g0 sv h1 h2 h7), (h1, tmC tv), (h2, boC h3 h5 bv), (h3, mkC h4), (h4, .inl (cJ, 4, .inr (.inl f))), (h5, mkC h6), (h6, .inl (cJ, 4, .inr (.inl g))), (h7, cuC cv)]) [0, 1, 2, 3, 4, 5, 6, 7] rfl
    have hD9 := hD.sub (ws' := [(h0, snC n0 k0 g0 sv h1 h2 h7), (h1, tmC tv), (h2, boC h3 h5 bv), (h3, mkC h4), (h4, .inl (cJ, 4, .inr (.inl f))), (h5, mkC h6), (h6, .inl (cJ, 4, .inr (.inl g))), (h7, cuC cv)]) [0, 1, 2, 3, 4, 5, 6, 7] (by decide) rfl
    exact W.iret (v := x_20) hx hb hr (fun t ht hW => ⟨⟨x_20, (), rfl, ⟨(by decide), (by rw [← hRES, hE])⟩, ⟨sv, tv, bv, cv, f, g, ⟨(by rw [← hRES, hE]), (by rw [← hRES, hE]), (by rw [← hRES, hE]), (by rw [← hRES, hE]), (by rw [← hRES, hE]), (by rw [← hRES, hE])⟩, by rw [ht]; exact hP9, va_K.moved hW.alike hK, hD9⟩⟩, hS.F ht⟩) hS.2.2 dX8_tellMore_66
  have hE := hE.trans (if_neg t_17_12)
  by_cases t_17_13 : n1 = 13
  · have hE := hE.trans (if_pos t_17_13)
    refine lv_tableIn (tgt := 67) (off := 66) hx hb dX8_tellMore_1 (by rw [t_17_13]; decide) (by rw [t_17_13]; decide) (by rw [t_17_13]; rfl) (by decide) ?_
    refine lv_aload_n hx hb dX8_tellMore_67 rfl (lv_at hl 0 rfl) ?_
    refine va_get (D := D) (ci := 8) (v := .int (sv 9)) (C := RX8) (T := TX8) (N := 20) hx hb ha inlX8 hown hK hP 0 rfl rfl 9 (by decide) (ha _ kf_X8_22) (fun _ h9 => h9) rfl dX8_tellMore_68 ?_
    refine lv_topi (fun x_21 ex_21 => ?_)
    have hE := bd_at ex_21 hE
    have hP9 := hP.sub (ws' := [(h0, snC n0 k0 g0 sv h1 h2 h7), (h1, tmC tv), (h2, boC h3 h5 bv), (h3, mkC h4), (h4, .inl (cJ, 4, .inr (.inl f))), (h5, mkC h6), (h6, .inl (cJ, 4, .inr (.inl g))), (h7, cuC cv)]) [0, 1, 2, 3, 4, 5, 6, 7] rfl
    have hD9 := hD.sub (ws' := [(h0, snC n0 k0 g0 sv h1 h2 h7), (h1, tmC tv), (h2, boC h3 h5 bv), (h3, mkC h4), (h4, .inl (cJ, 4, .inr (.inl f))), (h5, mkC h6), (h6, .inl (cJ, 4, .inr (.inl g))), (h7, cuC cv)]) [0, 1, 2, 3, 4, 5, 6, 7] (by decide) rfl
    exact W.iret (v := x_21) hx hb hr (fun t ht hW => ⟨⟨x_21, (), rfl, ⟨(by decide), (by rw [← hRES, hE])⟩, ⟨sv, tv, bv, cv, f, g, ⟨(by rw [← hRES, hE]), (by rw [← hRES, hE]), (by rw [← hRES, hE]), (by rw [← hRES, hE]), (by rw [← hRES, hE]), (by rw [← hRES, hE])⟩, by rw [ht]; exact hP9, va_K.moved hW.alike hK, hD9⟩⟩, hS.F ht⟩) hS.2.2 dX8_tellMore_71
  have hE := hE.trans (if_neg t_17_13)
  by_cases t_17_14 : n1 = 14
  · have hE := hE.trans (if_pos t_17_14)
    refine lv_tableIn (tgt := 72) (off := 71) hx hb dX8_tellMore_1 (by rw [t_17_14]; decide) (by rw [t_17_14]; decide) (by rw [t_17_14]; rfl) (by decide) ?_
    refine lv_aload_n hx hb dX8_tellMore_72 rfl (lv_at hl 0 rfl) ?_
    refine va_get (D := D) (ci := 8) (v := .ref h1) (C := RX8) (T := TX8) (N := 20) hx hb ha inlX8 hown hK hP 0 rfl rfl 17 (by decide) (ha _ kf_X8_28) (fun _ h9 => h9) rfl dX8_tellMore_73 ?_
    refine va_getN (D := D) (ci := 9) (v := .int (tv 3)) (C := RX9) (T := TX9) (N := 6) hx hb ha inlX9 hown hK hP 1 rfl rfl 3 (by decide) (va_Nw.use rfl (hN.f RX8 114 "CongestionBench$Timer" "due" "I" "CongestionBench" (by decide +kernel))) (fun _ h9 => h9) rfl dX8_tellMore_76 ?_
    refine lv_topi (fun x_22 ex_22 => ?_)
    have hE := bd_at ex_22 hE
    have hP9 := hP.sub (ws' := [(h0, snC n0 k0 g0 sv h1 h2 h7), (h1, tmC tv), (h2, boC h3 h5 bv), (h3, mkC h4), (h4, .inl (cJ, 4, .inr (.inl f))), (h5, mkC h6), (h6, .inl (cJ, 4, .inr (.inl g))), (h7, cuC cv)]) [0, 1, 2, 3, 4, 5, 6, 7] rfl
    have hD9 := hD.sub (ws' := [(h0, snC n0 k0 g0 sv h1 h2 h7), (h1, tmC tv), (h2, boC h3 h5 bv), (h3, mkC h4), (h4, .inl (cJ, 4, .inr (.inl f))), (h5, mkC h6), (h6, .inl (cJ, 4, .inr (.inl g))), (h7, cuC cv)]) [0, 1, 2, 3, 4, 5, 6, 7] (by decide) rfl
    exact W.iret (v := x_22) hx hb hr (fun t ht hW => ⟨⟨x_22, (), rfl, ⟨(by decide), (by rw [← hRES, hE])⟩, ⟨sv, tv, bv, cv, f, g, ⟨(by rw [← hRES, hE]), (by rw [← hRES, hE]), (by rw [← hRES, hE]), (by rw [← hRES, hE]), (by rw [← hRES, hE]), (by rw [← hRES, hE])⟩, by rw [ht]; exact hP9, va_K.moved hW.alike hK, hD9⟩⟩, hS.F ht⟩) hS.2.2 dX8_tellMore_79
  have hE := hE.trans (if_neg t_17_14)
  by_cases t_17_15 : n1 = 15
  · have hE := hE.trans (if_pos t_17_15)
    refine lv_tableIn (tgt := 80) (off := 79) hx hb dX8_tellMore_1 (by rw [t_17_15]; decide) (by rw [t_17_15]; decide) (by rw [t_17_15]; rfl) (by decide) ?_
    refine lv_aload_n hx hb dX8_tellMore_80 rfl (lv_at hl 0 rfl) ?_
    refine va_get (D := D) (ci := 8) (v := .int (sv 16)) (C := RX8) (T := TX8) (N := 20) hx hb ha inlX8 hown hK hP 0 rfl rfl 16 (by decide) (ha _ kf_X8_159) (fun _ h9 => h9) rfl dX8_tellMore_81 ?_
    refine lv_topi (fun x_23 ex_23 => ?_)
    have hE := bd_at ex_23 hE
    have hP9 := hP.sub (ws' := [(h0, snC n0 k0 g0 sv h1 h2 h7), (h1, tmC tv), (h2, boC h3 h5 bv), (h3, mkC h4), (h4, .inl (cJ, 4, .inr (.inl f))), (h5, mkC h6), (h6, .inl (cJ, 4, .inr (.inl g))), (h7, cuC cv)]) [0, 1, 2, 3, 4, 5, 6, 7] rfl
    have hD9 := hD.sub (ws' := [(h0, snC n0 k0 g0 sv h1 h2 h7), (h1, tmC tv), (h2, boC h3 h5 bv), (h3, mkC h4), (h4, .inl (cJ, 4, .inr (.inl f))), (h5, mkC h6), (h6, .inl (cJ, 4, .inr (.inl g))), (h7, cuC cv)]) [0, 1, 2, 3, 4, 5, 6, 7] (by decide) rfl
    exact W.iret (v := x_23) hx hb hr (fun t ht hW => ⟨⟨x_23, (), rfl, ⟨(by decide), (by rw [← hRES, hE])⟩, ⟨sv, tv, bv, cv, f, g, ⟨(by rw [← hRES, hE]), (by rw [← hRES, hE]), (by rw [← hRES, hE]), (by rw [← hRES, hE]), (by rw [← hRES, hE]), (by rw [← hRES, hE])⟩, by rw [ht]; exact hP9, va_K.moved hW.alike hK, hD9⟩⟩, hS.F ht⟩) hS.2.2 dX8_tellMore_84
  have hE := hE.trans (if_neg t_17_15)
  by_cases t_17_16 : n1 = 16
  · have hE := hE.trans (if_pos t_17_16)
    refine lv_tableIn (tgt := 85) (off := 84) hx hb dX8_tellMore_1 (by rw [t_17_16]; decide) (by rw [t_17_16]; decide) (by rw [t_17_16]; rfl) (by decide) ?_
    refine lv_aload_n hx hb dX8_tellMore_85 rfl (lv_at hl 0 rfl) ?_
    refine va_get (D := D) (ci := 8) (v := .ref h7) (C := RX8) (T := TX8) (N := 20) hx hb ha inlX8 hown hK hP 0 rfl rfl 19 (by decide) (ha _ kf_X8_42) (fun _ h9 => h9) rfl dX8_tellMore_86 ?_
    refine va_getN (D := D) (ci := 2) (v := .int (cv 0)) (C := RX2) (T := TX2) (N := 5) hx hb ha inlX2 hown hK hP 7 rfl rfl 0 (by decide) (va_Nw.use rfl (hN.f RX8 162 "CongestionBench$Cubic" "wmax" "I" "CongestionBench" (by decide +kernel))) (fun _ h9 => h9) rfl dX8_tellMore_89 ?_
    refine lv_topi (fun x_24 ex_24 => ?_)
    have hE := bd_at ex_24 hE
    have hP9 := hP.sub (ws' := [(h0, snC n0 k0 g0 sv h1 h2 h7), (h1, tmC tv), (h2, boC h3 h5 bv), (h3, mkC h4), (h4, .inl (cJ, 4, .inr (.inl f))), (h5, mkC h6), (h6, .inl (cJ, 4, .inr (.inl g))), (h7, cuC cv)]) [0, 1, 2, 3, 4, 5, 6, 7] rfl
    have hD9 := hD.sub (ws' := [(h0, snC n0 k0 g0 sv h1 h2 h7), (h1, tmC tv), (h2, boC h3 h5 bv), (h3, mkC h4), (h4, .inl (cJ, 4, .inr (.inl f))), (h5, mkC h6), (h6, .inl (cJ, 4, .inr (.inl g))), (h7, cuC cv)]) [0, 1, 2, 3, 4, 5, 6, 7] (by decide) rfl
    exact W.iret (v := x_24) hx hb hr (fun t ht hW => ⟨⟨x_24, (), rfl, ⟨(by decide), (by rw [← hRES, hE])⟩, ⟨sv, tv, bv, cv, f, g, ⟨(by rw [← hRES, hE]), (by rw [← hRES, hE]), (by rw [← hRES, hE]), (by rw [← hRES, hE]), (by rw [← hRES, hE]), (by rw [← hRES, hE])⟩, by rw [ht]; exact hP9, va_K.moved hW.alike hK, hD9⟩⟩, hS.F ht⟩) hS.2.2 dX8_tellMore_92
  have hE := hE.trans (if_neg t_17_16)
  by_cases t_17_17 : n1 = 17
  · have hE := hE.trans (if_pos t_17_17)
    refine lv_tableIn (tgt := 93) (off := 92) hx hb dX8_tellMore_1 (by rw [t_17_17]; decide) (by rw [t_17_17]; decide) (by rw [t_17_17]; rfl) (by decide) ?_
    refine lv_aload_n hx hb dX8_tellMore_93 rfl (lv_at hl 0 rfl) ?_
    refine va_get (D := D) (ci := 8) (v := .ref h7) (C := RX8) (T := TX8) (N := 20) hx hb ha inlX8 hown hK hP 0 rfl rfl 19 (by decide) (ha _ kf_X8_42) (fun _ h9 => h9) rfl dX8_tellMore_94 ?_
    refine va_getN (D := D) (ci := 2) (v := .int (cv 1)) (C := RX2) (T := TX2) (N := 5) hx hb ha inlX2 hown hK hP 7 rfl rfl 1 (by decide) (va_Nw.use rfl (hN.f RX8 165 "CongestionBench$Cubic" "k" "I" "CongestionBench" (by decide +kernel))) (fun _ h9 => h9) rfl dX8_tellMore_97 ?_
    refine lv_topi (fun x_25 ex_25 => ?_)
    have hE := bd_at ex_25 hE
    have hP9 := hP.sub (ws' := [(h0, snC n0 k0 g0 sv h1 h2 h7), (h1, tmC tv), (h2, boC h3 h5 bv), (h3, mkC h4), (h4, .inl (cJ, 4, .inr (.inl f))), (h5, mkC h6), (h6, .inl (cJ, 4, .inr (.inl g))), (h7, cuC cv)]) [0, 1, 2, 3, 4, 5, 6, 7] rfl
    have hD9 := hD.sub (ws' := [(h0, snC n0 k0 g0 sv h1 h2 h7), (h1, tmC tv), (h2, boC h3 h5 bv), (h3, mkC h4), (h4, .inl (cJ, 4, .inr (.inl f))), (h5, mkC h6), (h6, .inl (cJ, 4, .inr (.inl g))), (h7, cuC cv)]) [0, 1, 2, 3, 4, 5, 6, 7] (by decide) rfl
    exact W.iret (v := x_25) hx hb hr (fun t ht hW => ⟨⟨x_25, (), rfl, ⟨(by decide), (by rw [← hRES, hE])⟩, ⟨sv, tv, bv, cv, f, g, ⟨(by rw [← hRES, hE]), (by rw [← hRES, hE]), (by rw [← hRES, hE]), (by rw [← hRES, hE]), (by rw [← hRES, hE]), (by rw [← hRES, hE])⟩, by rw [ht]; exact hP9, va_K.moved hW.alike hK, hD9⟩⟩, hS.F ht⟩) hS.2.2 dX8_tellMore_100
  have hE := hE.trans (if_neg t_17_17)
  by_cases t_17_18 : n1 = 18
  · have hE := hE.trans (if_pos t_17_18)
    refine lv_tableIn (tgt := 101) (off := 100) hx hb dX8_tellMore_1 (by rw [t_17_18]; decide) (by rw [t_17_18]; decide) (by rw [t_17_18]; rfl) (by decide) ?_
    refine lv_aload_n hx hb dX8_tellMore_101 rfl (lv_at hl 0 rfl) ?_
    have hPc := hP.sub (ws' := [(h0, snC n0 k0 g0 sv h1 h2 h7), (h1, tmC tv), (h2, boC h3 h5 bv), (h3, mkC h4), (h4, .inl (cJ, 4, .inr (.inl f))), (h5, mkC h6), (h6, .inl (cJ, 4, .inr (.inl g))), (h7, cuC cv)]) [0, 1, 2, 3, 4, 5, 6, 7] rfl
    have hDc := hD.sub (ws' := [(h0, snC n0 k0 g0 sv h1 h2 h7), (h1, tmC tv), (h2, boC h3 h5 bv), (h3, mkC h4), (h4, .inl (cJ, 4, .inr (.inl f))), (h5, mkC h6), (h6, .inl (cJ, 4, .inr (.inl g))), (h7, cuC cv)]) [0, 1, 2, 3, 4, 5, 6, 7] (by decide) rfl
    have hFc := va_free (wc := [(h0, snC n0 k0 g0 sv h1 h2 h7), (h1, tmC tv), (h2, boC h3 h5 bv), (h3, mkC h4), (h4, .inl (cJ, 4, .inr (.inl f))), (h5, mkC h6), (h6, .inl (cJ, 4, .inr (.inl g))), (h7, cuC cv)]) hD hS hA [0, 1, 2, 3, 4, 5, 6, 7] rfl
    refine va_calli (va_runV (As := []) (rest := []) ⟨hx, hb, hml, hown, ha⟩ (s_out l D cI cJ cZ cO _ h0 h1 h2 h3 h4 h5 h6 h7 n0 k0 g0 sv tv bv cv f g) (cwV 0 ha (gaV kl_X8_168 km_X8_out ks_X8_out kz_X8 kd_X8_out) rfl rfl rfl (by decide +kernel) ⟨Nat.le_of_ble_eq_true rfl, Nat.le_of_ble_eq_true rfl⟩) ⟨pw_blind, va_recv hK hPc (ci := 8) (q0 := 0) rfl rfl, fun U hU hW => ⟨rfl, pw_start hU hW hPc hK hDc hN⟩⟩ rfl rfl hl.1 rfl (lv_room (Nat.le_of_ble_eq_true rfl)) dX8_tellMore_102 ⟨Nat.le_of_ble_eq_true rfl, Nat.le_of_ble_eq_true rfl⟩) hS (fun q _ h => hFc q h) hFc (fun r_26 u t H1 locs ht hvm hw hB hz1 hk1 hS => ?_)
    obtain ⟨sv, tv, bv, cv, f, g, ⟨hX0, hX1, hX2, hX3, hX4, hX5⟩, hP1, hK1, hD1⟩ := hB
    have hE := bd_at rfl hE
    have hE := bd_at hX0 hE
    have hE := bd_at hX1 hE
    have hE := bd_at hX2 hE
    have hE := bd_at hX3 hE
    have hE := bd_at hX4 hE
    have hE := bd_at hX5 hE
    have hE := bd_at hw.2 hE
    rw [ht] at hP1
    obtain ⟨hP, hD⟩ := va_join (wr := []) (w1 := [(h0, snC n0 k0 g0 sv h1 h2 h7), (h1, tmC tv), (h2, boC h3 h5 bv), (h3, mkC h4), (h4, .inl (cJ, 4, .inr (.inl f))), (h5, mkC h6), (h6, .inl (cJ, 4, .inr (.inl g))), (h7, cuC cv)]) hP hD [0, 1, 2, 3, 4, 5, 6, 7] [] rfl rfl (by decide) (by decide) hk1 hFc hP1 hD1
    generalize H1 = H at hP hS ⊢
    have hP : va_P D vwCl [(h0, snC n0 k0 g0 sv h1 h2 h7), (h1, tmC tv), (h2, boC h3 h5 bv), (h3, mkC h4), (h4, .inl (cJ, 4, .inr (.inl f))), (h5, mkC h6), (h6, .inl (cJ, 4, .inr (.inl g))), (h7, cuC cv)] H := hP
    have hD : va_D A [(h0, snC n0 k0 g0 sv h1 h2 h7), (h1, tmC tv), (h2, boC h3 h5 bv), (h3, mkC h4), (h4, .inl (cJ, 4, .inr (.inl f))), (h5, mkC h6), (h6, .inl (cJ, 4, .inr (.inl g))), (h7, cuC cv)] := hD
    refine W.widen (k := 0) (n := 0) (Nat.le_of_ble_eq_true rfl) (Nat.le_of_ble_eq_true rfl) ?_
    have hr_26 := hw.1
    have hP9 := hP.sub (ws' := [(h0, snC n0 k0 g0 sv h1 h2 h7), (h1, tmC tv), (h2, boC h3 h5 bv), (h3, mkC h4), (h4, .inl (cJ, 4, .inr (.inl f))), (h5, mkC h6), (h6, .inl (cJ, 4, .inr (.inl g))), (h7, cuC cv)]) [0, 1, 2, 3, 4, 5, 6, 7] rfl
    have hD9 := hD.sub (ws' := [(h0, snC n0 k0 g0 sv h1 h2 h7), (h1, tmC tv), (h2, boC h3 h5 bv), (h3, mkC h4), (h4, .inl (cJ, 4, .inr (.inl f))), (h5, mkC h6), (h6, .inl (cJ, 4, .inr (.inl g))), (h7, cuC cv)]) [0, 1, 2, 3, 4, 5, 6, 7] (by decide) rfl
    exact W.iret (v := r_26) hx hb hr (fun t ht hW => ⟨⟨r_26, (), rfl, ⟨(by decide), (by rw [← hRES, hE])⟩, ⟨sv, tv, bv, cv, f, g, ⟨(by rw [← hRES, hE]), (by rw [← hRES, hE]), (by rw [← hRES, hE]), (by rw [← hRES, hE]), (by rw [← hRES, hE]), (by rw [← hRES, hE])⟩, by rw [ht]; exact hP9, va_K.moved hW.alike hK, hD9⟩⟩, hS.F ht⟩) hS.2.2 dX8_tellMore_105
  have hE := hE.trans (if_neg t_17_18)
  refine lv_tableOut (tgt := 106) hx hb dX8_tellMore_1 (by have h0 := lv_neT (a := 10) t_17_10 (by decide); have h1 := lv_neT (a := 11) t_17_11 (by decide); have h2 := lv_neT (a := 12) t_17_12 (by decide); have h3 := lv_neT (a := 13) t_17_13 (by decide); have h4 := lv_neT (a := 14) t_17_14 (by decide); have h5 := lv_neT (a := 15) t_17_15 (by decide); have h6 := lv_neT (a := 16) t_17_16 (by decide); have h7 := lv_neT (a := 17) t_17_17 (by decide); have h8 := lv_neT (a := 18) t_17_18 (by decide); omega) (by decide) ?_
  refine lv_iconst (v := (-1)) hx hb dX8_tellMore_106 (by decide) ?_
  have hP9 := hP.sub (ws' := [(h0, snC n0 k0 g0 sv h1 h2 h7), (h1, tmC tv), (h2, boC h3 h5 bv), (h3, mkC h4), (h4, .inl (cJ, 4, .inr (.inl f))), (h5, mkC h6), (h6, .inl (cJ, 4, .inr (.inl g))), (h7, cuC cv)]) [0, 1, 2, 3, 4, 5, 6, 7] rfl
  have hD9 := hD.sub (ws' := [(h0, snC n0 k0 g0 sv h1 h2 h7), (h1, tmC tv), (h2, boC h3 h5 bv), (h3, mkC h4), (h4, .inl (cJ, 4, .inr (.inl f))), (h5, mkC h6), (h6, .inl (cJ, 4, .inr (.inl g))), (h7, cuC cv)]) [0, 1, 2, 3, 4, 5, 6, 7] (by decide) rfl
  exact W.iret (v := (-1)) hx hb hr (fun t ht hW => ⟨⟨(-1), (), rfl, ⟨(by decide), (by rw [← hRES, hE])⟩, ⟨sv, tv, bv, cv, f, g, ⟨(by rw [← hRES, hE]), (by rw [← hRES, hE]), (by rw [← hRES, hE]), (by rw [← hRES, hE]), (by rw [← hRES, hE]), (by rw [← hRES, hE])⟩, by rw [ht]; exact hP9, va_K.moved hW.alike hK, hD9⟩⟩, hS.F ht⟩) hS.2.2 dX8_tellMore_107

set_option maxRecDepth 100000 in
def xc_stell (n0 : Int32) (k0 : Int32) (g0 : Int32) (sv : Nat → Int32) (tv : Nat → Int32) (bv : Nat → Int32) (cv : Nat → Int32) (f : Nat → Int64) (g : Nat → Int64) (n1 : Int32) : (Nat → Int32) × (Nat → Int32) × (Nat → Int32) × (Nat → Int32) × (Nat → Int64) × (Nat → Int64) × Int32 := (if n1 = 0 then bd (sv 3) (fun v12 => (sv, tv, bv, cv, f, g, v12)) else (if n1 = 1 then bd (sv 4) (fun v11 => (sv, tv, bv, cv, f, g, v11)) else (if n1 = 2 then bd (sv 5) (fun v10 => (sv, tv, bv, cv, f, g, v10)) else (if n1 = 3 then bd (sv 6) (fun v9 => (sv, tv, bv, cv, f, g, v9)) else (if n1 = 4 then bd (sv 8) (fun v8 => (sv, tv, bv, cv, f, g, v8)) else (if n1 = 5 then bd (tv 0) (fun v7 => (sv, tv, bv, cv, f, g, v7)) else (if n1 = 6 then bd (tv 1) (fun v6 => (sv, tv, bv, cv, f, g, v6)) else (if n1 = 7 then bd (tv 2) (fun v5 => (sv, tv, bv, cv, f, g, v5)) else (if n1 = 8 then bd (sv 10) (fun v4 => (sv, tv, bv, cv, f, g, v4)) else (if n1 = 9 then bd (sv 11) (fun v3 => (if v3 = (0 : Int32) then (sv, tv, bv, cv, f, g, (0 : Int32)) else (sv, tv, bv, cv, f, g, (1 : Int32)))) else bd (xc_tellMore n0 k0 g0 sv tv bv cv f g n1) (fun t1 => bd (t1.1) (fun sv => bd (t1.2.1) (fun tv => bd (t1.2.2.1) (fun bv => bd (t1.2.2.2.1) (fun cv => bd (t1.2.2.2.2.1) (fun f => bd (t1.2.2.2.2.2.1) (fun g => bd (t1.2.2.2.2.2.2) (fun v2 => (sv, tv, bv, cv, f, g, v2)))))))))))))))))))
set_option maxHeartbeats 4000000 in
set_option maxRecDepth 100000 in
theorem s_stell (l : Launch) (D : va_G) (cI cJ cZ cO : ClassId) (sz : Nat) (h0 h1 h2 h3 h4 h5 h6 h7 : Nat) (n0 k0 g0 : Int32) (sv tv bv cv : Nat → Int32) (f g : Nat → Int64) (n1 : Int32) : Met l yX8_tell (wa yX8_tell cX8_tell 2 (some .int)) ({ frames := 5, cells := 0, slots := 0, locals := 108 }) (va_Pc [.ref h0, .int n1] (pw_s D cI cJ cZ cO sz [(h0, snC n0 k0 g0 sv h1 h2 h7), (h1, tmC tv), (h2, boC h3 h5 bv), (h3, mkC h4), (h4, .inl (cJ, 4, .inr (.inl f))), (h5, mkC h6), (h6, .inl (cJ, 4, .inr (.inl g))), (h7, cuC cv)])) (va_Qi (fun (r : Int32) (_ : Unit) => ((True) ∧ r = (xc_stell n0 k0 g0 sv tv bv cv f g n1).2.2.2.2.2.2)) (fun (_ : Unit) (t : State) => ∃ (sv2 tv2 bv2 cv2 : Nat → Int32) (f2 g2 : Nat → Int64), (sv2 = (xc_stell n0 k0 g0 sv tv bv cv f g n1).1 ∧ tv2 = (xc_stell n0 k0 g0 sv tv bv cv f g n1).2.1 ∧ bv2 = (xc_stell n0 k0 g0 sv tv bv cv f g n1).2.2.1 ∧ cv2 = (xc_stell n0 k0 g0 sv tv bv cv f g n1).2.2.2.1 ∧ f2 = (xc_stell n0 k0 g0 sv tv bv cv f g n1).2.2.2.2.1 ∧ g2 = (xc_stell n0 k0 g0 sv tv bv cv f g n1).2.2.2.2.2.1) ∧ pw_t D cI cJ cZ cO (va_A [(h0, snC n0 k0 g0 sv h1 h2 h7), (h1, tmC tv), (h2, boC h3 h5 bv), (h3, mkC h4), (h4, .inl (cJ, 4, .inr (.inl f))), (h5, mkC h6), (h6, .inl (cJ, 4, .inr (.inl g))), (h7, cuC cv)] sz) [(h0, snC n0 k0 g0 sv2 h1 h2 h7), (h1, tmC tv2), (h2, boC h3 h5 bv2), (h3, mkC h4), (h4, .inl (cJ, 4, .inr (.inl f2))), (h5, mkC h6), (h6, .inl (cJ, 4, .inr (.inl g2))), (h7, cuC cv2)] t) (va_A [(h0, snC n0 k0 g0 sv h1 h2 h7), (h1, tmC tv), (h2, boC h3 h5 bv), (h3, mkC h4), (h4, .inl (cJ, 4, .inr (.inl f))), (h5, mkC h6), (h6, .inl (cJ, 4, .inr (.inl g))), (h7, cuC cv)] sz)) 0 0 (va_A [(h0, snC n0 k0 g0 sv h1 h2 h7), (h1, tmC tv), (h2, boC h3 h5 bv), (h3, mkC h4), (h4, .inl (cJ, 4, .inr (.inl f))), (h5, mkC h6), (h6, .inl (cJ, 4, .inr (.inl g))), (h7, cuC cv)] sz) := by
  refine Met.ofW (cc := cX8_tell) (maxL := 2) (ret := (some .int)) (by decide) rfl ?_
  intro p e s m args below meth c s₁ B hml hv
  obtain ⟨rfl, hsz, hP, hK, hD0, hN⟩ := hv
  have hx := B.exec
  have hb := B.bytes
  have hr := B.returns
  have hts := atoms_spec (ws := (wa yX8_tell cX8_tell 2 (some .int))) B.pre
  have ha : ∀ w ∈ wsL_law, w.before _ s = true := fun w h => hts w (List.mem_cons_of_mem _ h)
  have hown : s.vm.findClass RX8 = some m.cls := findClass_of_methodNamed B.named
  have hlocks := B.notSynchronized
  subst hsz
  have hD := hD0.self (sz := s.heap.size)
  generalize hAe : va_A [(h0, snC n0 k0 g0 sv h1 h2 h7), (h1, tmC tv), (h2, boC h3 h5 bv), (h3, mkC h4), (h4, .inl (cJ, 4, .inr (.inl f))), (h5, mkC h6), (h6, .inl (cJ, 4, .inr (.inl g))), (h7, cuC cv)] s.heap.size = A at hD ⊢
  have hA : ∀ q : Nat, s.heap.size ≤ q → A q := fun q h => by rw [← hAe]; exact Or.inr h
  have hS : va_S A s.heap s.heap [] := va_S.rf
  have hP : va_P D vwCl [(h0, snC n0 k0 g0 sv h1 h2 h7), (h1, tmC tv), (h2, boC h3 h5 bv), (h3, mkC h4), (h4, .inl (cJ, 4, .inr (.inl f))), (h5, mkC h6), (h6, .inl (cJ, 4, .inr (.inl g))), (h7, cuC cv)] s.heap := hP
  have hl := lv_entry ([.ref h0, .int n1]) (n := 2) (Nat.le_of_ble_eq_true rfl)
  rw [lg_entry_eq]
  generalize (lg_sl ([.ref h0, .int n1]) ++ List.replicate (2 - (lg_sl ([.ref h0, .int n1])).length) Slot.unset).toArray = ls at hl ⊢
  have hl : lv_has ls 2 [(0, .ref h0), (1, .int n1)] := hl
  obtain ⟨QP, hQP⟩ : ∃ y : State → Prop, y = (MQ below (va_Qi (fun (r : Int32) (_ : Unit) => ((True) ∧ r = (xc_stell n0 k0 g0 sv tv bv cv f g n1).2.2.2.2.2.2)) (fun (_ : Unit) (t : State) => ∃ (sv2 tv2 bv2 cv2 : Nat → Int32) (f2 g2 : Nat → Int64), (sv2 = (xc_stell n0 k0 g0 sv tv bv cv f g n1).1 ∧ tv2 = (xc_stell n0 k0 g0 sv tv bv cv f g n1).2.1 ∧ bv2 = (xc_stell n0 k0 g0 sv tv bv cv f g n1).2.2.1 ∧ cv2 = (xc_stell n0 k0 g0 sv tv bv cv f g n1).2.2.2.1 ∧ f2 = (xc_stell n0 k0 g0 sv tv bv cv f g n1).2.2.2.2.1 ∧ g2 = (xc_stell n0 k0 g0 sv tv bv cv f g n1).2.2.2.2.2.1) ∧ pw_t D cI cJ cZ cO A [(h0, snC n0 k0 g0 sv2 h1 h2 h7), (h1, tmC tv2), (h2, boC h3 h5 bv2), (h3, mkC h4), (h4, .inl (cJ, 4, .inr (.inl f2))), (h5, mkC h6), (h6, .inl (cJ, 4, .inr (.inl g2))), (h7, cuC cv2)] t) A) #[(.ref h0 : Value), (.int n1 : Value)] s 0 0 A) := ⟨_, rfl⟩
  obtain ⟨RES, hRES⟩ : ∃ y, y = (xc_stell n0 k0 g0 sv tv bv cv f g n1) := ⟨_, rfl⟩
  -- from the entry
  have hE := hRES
  unfold xc_stell at hE
  refine lv_iload_n hx hb dX8_tell_0 rfl (lv_at hl 1 rfl) ?_
  by_cases t_20_0 : n1 = 0
  · have hE := hE.trans (if_pos t_20_0)
    refine lv_tableIn (tgt := 56) (off := 55) hx hb dX8_tell_1 (by rw [t_20_0]; decide) (by rw [t_20_0]; decide) (by rw [t_20_0]; rfl) (by decide) ?_
    refine lv_aload_n hx hb dX8_tell_56 rfl (lv_at hl 0 rfl) ?_
    refine va_get (D := D) (ci := 8) (v := .int (sv 3)) (C := RX8) (T := TX8) (N := 20) hx hb ha inlX8 hown hK hP 0 rfl rfl 3 (by decide) (ha _ kf_X8_59) (fun _ h9 => h9) rfl dX8_tell_57 ?_
    refine lv_topi (fun x_21 ex_21 => ?_)
    have hE := bd_at ex_21 hE
    have hP9 := hP.sub (ws' := [(h0, snC n0 k0 g0 sv h1 h2 h7), (h1, tmC tv), (h2, boC h3 h5 bv), (h3, mkC h4), (h4, .inl (cJ, 4, .inr (.inl f))), (h5, mkC h6), (h6, .inl (cJ, 4, .inr (.inl g))), (h7, cuC cv)]) [0, 1, 2, 3, 4, 5, 6, 7] rfl
    have hD9 := hD.sub (ws' := [(h0, snC n0 k0 g0 sv h1 h2 h7), (h1, tmC tv), (h2, boC h3 h5 bv), (h3, mkC h4), (h4, .inl (cJ, 4, .inr (.inl f))), (h5, mkC h6), (h6, .inl (cJ, 4, .inr (.inl g))), (h7, cuC cv)]) [0, 1, 2, 3, 4, 5, 6, 7] (by decide) rfl
    exact W.iret (v := x_21) hx hb hr (fun t ht hW => ⟨⟨x_21, (), rfl, ⟨(by decide), (by rw [← hRES, hE])⟩, ⟨sv, tv, bv, cv, f, g, ⟨(by rw [← hRES, hE]), (by rw [← hRES, hE]), (by rw [← hRES, hE]), (by rw [← hRES, hE]), (by rw [← hRES, hE]), (by rw [← hRES, hE])⟩, by rw [ht]; exact hP9, va_K.moved hW.alike hK, hD9⟩⟩, hS.F ht⟩) hS.2.2 dX8_tell_60
  have hE := hE.trans (if_neg t_20_0)
  by_cases t_20_1 : n1 = 1
  · have hE := hE.trans (if_pos t_20_1)
    refine lv_tableIn (tgt := 61) (off := 60) hx hb dX8_tell_1 (by rw [t_20_1]; decide) (by rw [t_20_1]; decide) (by rw [t_20_1]; rfl) (by decide) ?_
    refine lv_aload_n hx hb dX8_tell_61 rfl (lv_at hl 0 rfl) ?_
    refine va_get (D := D) (ci := 8) (v := .int (sv 4)) (C := RX8) (T := TX8) (N := 20) hx hb ha inlX8 hown hK hP 0 rfl rfl 4 (by decide) (ha _ kf_X8_65) (fun _ h9 => h9) rfl dX8_tell_62 ?_
    refine lv_topi (fun x_22 ex_22 => ?_)
    have hE := bd_at ex_22 hE
    have hP9 := hP.sub (ws' := [(h0, snC n0 k0 g0 sv h1 h2 h7), (h1, tmC tv), (h2, boC h3 h5 bv), (h3, mkC h4), (h4, .inl (cJ, 4, .inr (.inl f))), (h5, mkC h6), (h6, .inl (cJ, 4, .inr (.inl g))), (h7, cuC cv)]) [0, 1, 2, 3, 4, 5, 6, 7] rfl
    have hD9 := hD.sub (ws' := [(h0, snC n0 k0 g0 sv h1 h2 h7), (h1, tmC tv), (h2, boC h3 h5 bv), (h3, mkC h4), (h4, .inl (cJ, 4, .inr (.inl f))), (h5, mkC h6), (h6, .inl (cJ, 4, .inr (.inl g))), (h7, cuC cv)]) [0, 1, 2, 3, 4, 5, 6, 7] (by decide) rfl
    exact W.iret (v := x_22) hx hb hr (fun t ht hW => ⟨⟨x_22, (), rfl, ⟨(by decide), (by rw [← hRES, hE])⟩, ⟨sv, tv, bv, cv, f, g, ⟨(by rw [← hRES, hE]), (by rw [← hRES, hE]), (by rw [← hRES, hE]), (by rw [← hRES, hE]), (by rw [← hRES, hE]), (by rw [← hRES, hE])⟩, by rw [ht]; exact hP9, va_K.moved hW.alike hK, hD9⟩⟩, hS.F ht⟩) hS.2.2 dX8_tell_65
  have hE := hE.trans (if_neg t_20_1)
  by_cases t_20_2 : n1 = 2
  · have hE := hE.trans (if_pos t_20_2)
    refine lv_tableIn (tgt := 66) (off := 65) hx hb dX8_tell_1 (by rw [t_20_2]; decide) (by rw [t_20_2]; decide) (by rw [t_20_2]; rfl) (by decide) ?_
    refine lv_aload_n hx hb dX8_tell_66 rfl (lv_at hl 0 rfl) ?_
    refine va_get (D := D) (ci := 8) (v := .int (sv 5)) (C := RX8) (T := TX8) (N := 20) hx hb ha inlX8 hown hK hP 0 rfl rfl 5 (by decide) (ha _ kf_X8_79) (fun _ h9 => h9) rfl dX8_tell_67 ?_
    refine lv_topi (fun x_23 ex_23 => ?_)
    have hE := bd_at ex_23 hE
    have hP9 := hP.sub (ws' := [(h0, snC n0 k0 g0 sv h1 h2 h7), (h1, tmC tv), (h2, boC h3 h5 bv), (h3, mkC h4), (h4, .inl (cJ, 4, .inr (.inl f))), (h5, mkC h6), (h6, .inl (cJ, 4, .inr (.inl g))), (h7, cuC cv)]) [0, 1, 2, 3, 4, 5, 6, 7] rfl
    have hD9 := hD.sub (ws' := [(h0, snC n0 k0 g0 sv h1 h2 h7), (h1, tmC tv), (h2, boC h3 h5 bv), (h3, mkC h4), (h4, .inl (cJ, 4, .inr (.inl f))), (h5, mkC h6), (h6, .inl (cJ, 4, .inr (.inl g))), (h7, cuC cv)]) [0, 1, 2, 3, 4, 5, 6, 7] (by decide) rfl
    exact W.iret (v := x_23) hx hb hr (fun t ht hW => ⟨⟨x_23, (), rfl, ⟨(by decide), (by rw [← hRES, hE])⟩, ⟨sv, tv, bv, cv, f, g, ⟨(by rw [← hRES, hE]), (by rw [← hRES, hE]), (by rw [← hRES, hE]), (by rw [← hRES, hE]), (by rw [← hRES, hE]), (by rw [← hRES, hE])⟩, by rw [ht]; exact hP9, va_K.moved hW.alike hK, hD9⟩⟩, hS.F ht⟩) hS.2.2 dX8_tell_70
  have hE := hE.trans (if_neg t_20_2)
  by_cases t_20_3 : n1 = 3
  · have hE := hE.trans (if_pos t_20_3)
    refine lv_tableIn (tgt := 71) (off := 70) hx hb dX8_tell_1 (by rw [t_20_3]; decide) (by rw [t_20_3]; decide) (by rw [t_20_3]; rfl) (by decide) ?_
    refine lv_aload_n hx hb dX8_tell_71 rfl (lv_at hl 0 rfl) ?_
    refine va_get (D := D) (ci := 8) (v := .int (sv 6)) (C := RX8) (T := TX8) (N := 20) hx hb ha inlX8 hown hK hP 0 rfl rfl 6 (by decide) (ha _ kf_X8_9) (fun _ h9 => h9) rfl dX8_tell_72 ?_
    refine lv_topi (fun x_24 ex_24 => ?_)
    have hE := bd_at ex_24 hE
    have hP9 := hP.sub (ws' := [(h0, snC n0 k0 g0 sv h1 h2 h7), (h1, tmC tv), (h2, boC h3 h5 bv), (h3, mkC h4), (h4, .inl (cJ, 4, .inr (.inl f))), (h5, mkC h6), (h6, .inl (cJ, 4, .inr (.inl g))), (h7, cuC cv)]) [0, 1, 2, 3, 4, 5, 6, 7] rfl
    have hD9 := hD.sub (ws' := [(h0, snC n0 k0 g0 sv h1 h2 h7), (h1, tmC tv), (h2, boC h3 h5 bv), (h3, mkC h4), (h4, .inl (cJ, 4, .inr (.inl f))), (h5, mkC h6), (h6, .inl (cJ, 4, .inr (.inl g))), (h7, cuC cv)]) [0, 1, 2, 3, 4, 5, 6, 7] (by decide) rfl
    exact W.iret (v := x_24) hx hb hr (fun t ht hW => ⟨⟨x_24, (), rfl, ⟨(by decide), (by rw [← hRES, hE])⟩, ⟨sv, tv, bv, cv, f, g, ⟨(by rw [← hRES, hE]), (by rw [← hRES, hE]), (by rw [← hRES, hE]), (by rw [← hRES, hE]), (by rw [← hRES, hE]), (by rw [← hRES, hE])⟩, by rw [ht]; exact hP9, va_K.moved hW.alike hK, hD9⟩⟩, hS.F ht⟩) hS.2.2 dX8_tell_75
  have hE := hE.trans (if_neg t_20_3)
  by_cases t_20_4 : n1 = 4
  · have hE := hE.trans (if_pos t_20_4)
    refine lv_tableIn (tgt := 76) (off := 75) hx hb dX8_tell_1 (by rw [t_20_4]; decide) (by rw [t_20_4]; decide) (by rw [t_20_4]; rfl) (by decide) ?_
    refine lv_aload_n hx hb dX8_tell_76 rfl (lv_at hl 0 rfl) ?_
    refine va_get (D := D) (ci := 8) (v := .int (sv 8)) (C := RX8) (T := TX8) (N := 20) hx hb ha inlX8 hown hK hP 0 rfl rfl 8 (by decide) (ha _ kf_X8_19) (fun _ h9 => h9) rfl dX8_tell_77 ?_
    refine lv_topi (fun x_25 ex_25 => ?_)
    have hE := bd_at ex_25 hE
    have hP9 := hP.sub (ws' := [(h0, snC n0 k0 g0 sv h1 h2 h7), (h1, tmC tv), (h2, boC h3 h5 bv), (h3, mkC h4), (h4, .inl (cJ, 4, .inr (.inl f))), (h5, mkC h6), (h6, .inl (cJ, 4, .inr (.inl g))), (h7, cuC cv)]) [0, 1, 2, 3, 4, 5, 6, 7] rfl
    have hD9 := hD.sub (ws' := [(h0, snC n0 k0 g0 sv h1 h2 h7), (h1, tmC tv), (h2, boC h3 h5 bv), (h3, mkC h4), (h4, .inl (cJ, 4, .inr (.inl f))), (h5, mkC h6), (h6, .inl (cJ, 4, .inr (.inl g))), (h7, cuC cv)]) [0, 1, 2, 3, 4, 5, 6, 7] (by decide) rfl
    exact W.iret (v := x_25) hx hb hr (fun t ht hW => ⟨⟨x_25, (), rfl, ⟨(by decide), (by rw [← hRES, hE])⟩, ⟨sv, tv, bv, cv, f, g, ⟨(by rw [← hRES, hE]), (by rw [← hRES, hE]), (by rw [← hRES, hE]), (by rw [← hRES, hE]), (by rw [← hRES, hE]), (by rw [← hRES, hE])⟩, by rw [ht]; exact hP9, va_K.moved hW.alike hK, hD9⟩⟩, hS.F ht⟩) hS.2.2 dX8_tell_80
  have hE := hE.trans (if_neg t_20_4)
  by_cases t_20_5 : n1 = 5
  · have hE := hE.trans (if_pos t_20_5)
    refine lv_tableIn (tgt := 81) (off := 80) hx hb dX8_tell_1 (by rw [t_20_5]; decide) (by rw [t_20_5]; decide) (by rw [t_20_5]; rfl) (by decide) ?_
    refine lv_aload_n hx hb dX8_tell_81 rfl (lv_at hl 0 rfl) ?_
    refine va_get (D := D) (ci := 8) (v := .ref h1) (C := RX8) (T := TX8) (N := 20) hx hb ha inlX8 hown hK hP 0 rfl rfl 17 (by decide) (ha _ kf_X8_28) (fun _ h9 => h9) rfl dX8_tell_82 ?_
    refine va_getN (D := D) (ci := 9) (v := .int (tv 0)) (C := RX9) (T := TX9) (N := 6) hx hb ha inlX9 hown hK hP 1 rfl rfl 0 (by decide) (va_Nw.use rfl (hN.f RX8 137 "CongestionBench$Timer" "rto" "I" "CongestionBench" (by decide +kernel))) (fun _ h9 => h9) rfl dX8_tell_85 ?_
    refine lv_topi (fun x_26 ex_26 => ?_)
    have hE := bd_at ex_26 hE
    have hP9 := hP.sub (ws' := [(h0, snC n0 k0 g0 sv h1 h2 h7), (h1, tmC tv), (h2, boC h3 h5 bv), (h3, mkC h4), (h4, .inl (cJ, 4, .inr (.inl f))), (h5, mkC h6), (h6, .inl (cJ, 4, .inr (.inl g))), (h7, cuC cv)]) [0, 1, 2, 3, 4, 5, 6, 7] rfl
    have hD9 := hD.sub (ws' := [(h0, snC n0 k0 g0 sv h1 h2 h7), (h1, tmC tv), (h2, boC h3 h5 bv), (h3, mkC h4), (h4, .inl (cJ, 4, .inr (.inl f))), (h5, mkC h6), (h6, .inl (cJ, 4, .inr (.inl g))), (h7, cuC cv)]) [0, 1, 2, 3, 4, 5, 6, 7] (by decide) rfl
    exact W.iret (v := x_26) hx hb hr (fun t ht hW => ⟨⟨x_26, (), rfl, ⟨(by decide), (by rw [← hRES, hE])⟩, ⟨sv, tv, bv, cv, f, g, ⟨(by rw [← hRES, hE]), (by rw [← hRES, hE]), (by rw [← hRES, hE]), (by rw [← hRES, hE]), (by rw [← hRES, hE]), (by rw [← hRES, hE])⟩, by rw [ht]; exact hP9, va_K.moved hW.alike hK, hD9⟩⟩, hS.F ht⟩) hS.2.2 dX8_tell_88
  have hE := hE.trans (if_neg t_20_5)
  by_cases t_20_6 : n1 = 6
  · have hE := hE.trans (if_pos t_20_6)
    refine lv_tableIn (tgt := 89) (off := 88) hx hb dX8_tell_1 (by rw [t_20_6]; decide) (by rw [t_20_6]; decide) (by rw [t_20_6]; rfl) (by decide) ?_
    refine lv_aload_n hx hb dX8_tell_89 rfl (lv_at hl 0 rfl) ?_
    refine va_get (D := D) (ci := 8) (v := .ref h1) (C := RX8) (T := TX8) (N := 20) hx hb ha inlX8 hown hK hP 0 rfl rfl 17 (by decide) (ha _ kf_X8_28) (fun _ h9 => h9) rfl dX8_tell_90 ?_
    refine va_getN (D := D) (ci := 9) (v := .int (tv 1)) (C := RX9) (T := TX9) (N := 6) hx hb ha inlX9 hown hK hP 1 rfl rfl 1 (by decide) (va_Nw.use rfl (hN.f RX8 140 "CongestionBench$Timer" "srtt" "I" "CongestionBench" (by decide +kernel))) (fun _ h9 => h9) rfl dX8_tell_93 ?_
    refine lv_topi (fun x_27 ex_27 => ?_)
    have hE := bd_at ex_27 hE
    have hP9 := hP.sub (ws' := [(h0, snC n0 k0 g0 sv h1 h2 h7), (h1, tmC tv), (h2, boC h3 h5 bv), (h3, mkC h4), (h4, .inl (cJ, 4, .inr (.inl f))), (h5, mkC h6), (h6, .inl (cJ, 4, .inr (.inl g))), (h7, cuC cv)]) [0, 1, 2, 3, 4, 5, 6, 7] rfl
    have hD9 := hD.sub (ws' := [(h0, snC n0 k0 g0 sv h1 h2 h7), (h1, tmC tv), (h2, boC h3 h5 bv), (h3, mkC h4), (h4, .inl (cJ, 4, .inr (.inl f))), (h5, mkC h6), (h6, .inl (cJ, 4, .inr (.inl g))), (h7, cuC cv)]) [0, 1, 2, 3, 4, 5, 6, 7] (by decide) rfl
    exact W.iret (v := x_27) hx hb hr (fun t ht hW => ⟨⟨x_27, (), rfl, ⟨(by decide), (by rw [← hRES, hE])⟩, ⟨sv, tv, bv, cv, f, g, ⟨(by rw [← hRES, hE]), (by rw [← hRES, hE]), (by rw [← hRES, hE]), (by rw [← hRES, hE]), (by rw [← hRES, hE]), (by rw [← hRES, hE])⟩, by rw [ht]; exact hP9, va_K.moved hW.alike hK, hD9⟩⟩, hS.F ht⟩) hS.2.2 dX8_tell_96
  have hE := hE.trans (if_neg t_20_6)
  by_cases t_20_7 : n1 = 7
  · have hE := hE.trans (if_pos t_20_7)
    refine lv_tableIn (tgt := 97) (off := 96) hx hb dX8_tell_1 (by rw [t_20_7]; decide) (by rw [t_20_7]; decide) (by rw [t_20_7]; rfl) (by decide) ?_
    refine lv_aload_n hx hb dX8_tell_97 rfl (lv_at hl 0 rfl) ?_
    refine va_get (D := D) (ci := 8) (v := .ref h1) (C := RX8) (T := TX8) (N := 20) hx hb ha inlX8 hown hK hP 0 rfl rfl 17 (by decide) (ha _ kf_X8_28) (fun _ h9 => h9) rfl dX8_tell_98 ?_
    refine va_getN (D := D) (ci := 9) (v := .int (tv 2)) (C := RX9) (T := TX9) (N := 6) hx hb ha inlX9 hown hK hP 1 rfl rfl 2 (by decide) (va_Nw.use rfl (hN.f RX8 143 "CongestionBench$Timer" "variance" "I" "CongestionBench" (by decide +kernel))) (fun _ h9 => h9) rfl dX8_tell_101 ?_
    refine lv_topi (fun x_28 ex_28 => ?_)
    have hE := bd_at ex_28 hE
    have hP9 := hP.sub (ws' := [(h0, snC n0 k0 g0 sv h1 h2 h7), (h1, tmC tv), (h2, boC h3 h5 bv), (h3, mkC h4), (h4, .inl (cJ, 4, .inr (.inl f))), (h5, mkC h6), (h6, .inl (cJ, 4, .inr (.inl g))), (h7, cuC cv)]) [0, 1, 2, 3, 4, 5, 6, 7] rfl
    have hD9 := hD.sub (ws' := [(h0, snC n0 k0 g0 sv h1 h2 h7), (h1, tmC tv), (h2, boC h3 h5 bv), (h3, mkC h4), (h4, .inl (cJ, 4, .inr (.inl f))), (h5, mkC h6), (h6, .inl (cJ, 4, .inr (.inl g))), (h7, cuC cv)]) [0, 1, 2, 3, 4, 5, 6, 7] (by decide) rfl
    exact W.iret (v := x_28) hx hb hr (fun t ht hW => ⟨⟨x_28, (), rfl, ⟨(by decide), (by rw [← hRES, hE])⟩, ⟨sv, tv, bv, cv, f, g, ⟨(by rw [← hRES, hE]), (by rw [← hRES, hE]), (by rw [← hRES, hE]), (by rw [← hRES, hE]), (by rw [← hRES, hE]), (by rw [← hRES, hE])⟩, by rw [ht]; exact hP9, va_K.moved hW.alike hK, hD9⟩⟩, hS.F ht⟩) hS.2.2 dX8_tell_104
  have hE := hE.trans (if_neg t_20_7)
  by_cases t_20_8 : n1 = 8
  · have hE := hE.trans (if_pos t_20_8)
    refine lv_tableIn (tgt := 105) (off := 104) hx hb dX8_tell_1 (by rw [t_20_8]; decide) (by rw [t_20_8]; decide) (by rw [t_20_8]; rfl) (by decide) ?_
    refine lv_aload_n hx hb dX8_tell_105 rfl (lv_at hl 0 rfl) ?_
    refine va_get (D := D) (ci := 8) (v := .int (sv 10)) (C := RX8) (T := TX8) (N := 20) hx hb ha inlX8 hown hK hP 0 rfl rfl 10 (by decide) (ha _ kf_X8_93) (fun _ h9 => h9) rfl dX8_tell_106 ?_
    refine lv_topi (fun x_29 ex_29 => ?_)
    have hE := bd_at ex_29 hE
    have hP9 := hP.sub (ws' := [(h0, snC n0 k0 g0 sv h1 h2 h7), (h1, tmC tv), (h2, boC h3 h5 bv), (h3, mkC h4), (h4, .inl (cJ, 4, .inr (.inl f))), (h5, mkC h6), (h6, .inl (cJ, 4, .inr (.inl g))), (h7, cuC cv)]) [0, 1, 2, 3, 4, 5, 6, 7] rfl
    have hD9 := hD.sub (ws' := [(h0, snC n0 k0 g0 sv h1 h2 h7), (h1, tmC tv), (h2, boC h3 h5 bv), (h3, mkC h4), (h4, .inl (cJ, 4, .inr (.inl f))), (h5, mkC h6), (h6, .inl (cJ, 4, .inr (.inl g))), (h7, cuC cv)]) [0, 1, 2, 3, 4, 5, 6, 7] (by decide) rfl
    exact W.iret (v := x_29) hx hb hr (fun t ht hW => ⟨⟨x_29, (), rfl, ⟨(by decide), (by rw [← hRES, hE])⟩, ⟨sv, tv, bv, cv, f, g, ⟨(by rw [← hRES, hE]), (by rw [← hRES, hE]), (by rw [← hRES, hE]), (by rw [← hRES, hE]), (by rw [← hRES, hE]), (by rw [← hRES, hE])⟩, by rw [ht]; exact hP9, va_K.moved hW.alike hK, hD9⟩⟩, hS.F ht⟩) hS.2.2 dX8_tell_109
  have hE := hE.trans (if_neg t_20_8)
  by_cases t_20_9 : n1 = 9
  · have hE := hE.trans (if_pos t_20_9)
    refine lv_tableIn (tgt := 110) (off := 109) hx hb dX8_tell_1 (by rw [t_20_9]; decide) (by rw [t_20_9]; decide) (by rw [t_20_9]; rfl) (by decide) ?_
    refine lv_aload_n hx hb dX8_tell_110 rfl (lv_at hl 0 rfl) ?_
    refine va_get (D := D) (ci := 8) (v := .int (sv 11)) (C := RX8) (T := TX8) (N := 20) hx hb ha inlX8 hown hK hP 0 rfl rfl 11 (by decide) (ha _ kf_X8_86) (fun _ h9 => h9) rfl dX8_tell_111 ?_
    refine lv_topi (fun x_30 ex_30 => ?_)
    have hE := bd_at ex_30 hE
    refine lv_if_eq (tgt := 121) hx hb dX8_tell_114 (by decide) (fun c_31 => ?_) (fun c_31 => ?_)
    · have hE := hE.trans (if_pos c_31)
      refine lv_iconst (v := 0) hx hb dX8_tell_121 (by decide) ?_
      have hP9 := hP.sub (ws' := [(h0, snC n0 k0 g0 sv h1 h2 h7), (h1, tmC tv), (h2, boC h3 h5 bv), (h3, mkC h4), (h4, .inl (cJ, 4, .inr (.inl f))), (h5, mkC h6), (h6, .inl (cJ, 4, .inr (.inl g))), (h7, cuC cv)]) [0, 1, 2, 3, 4, 5, 6, 7] rfl
      have hD9 := hD.sub (ws' := [(h0, snC n0 k0 g0 sv h1 h2 h7), (h1, tmC tv), (h2, boC h3 h5 bv), (h3, mkC h4), (h4, .inl (cJ, 4, .inr (.inl f))), (h5, mkC h6), (h6, .inl (cJ, 4, .inr (.inl g))), (h7, cuC cv)]) [0, 1, 2, 3, 4, 5, 6, 7] (by decide) rfl
      exact W.iret (v := 0) hx hb hr (fun t ht hW => ⟨⟨0, (), rfl, ⟨(by decide), (by rw [← hRES, hE])⟩, ⟨sv, tv, bv, cv, f, g, ⟨(by rw [← hRES, hE]), (by rw [← hRES, hE]), (by rw [← hRES, hE]), (by rw [← hRES, hE]), (by rw [← hRES, hE]), (by rw [← hRES, hE])⟩, by rw [ht]; exact hP9, va_K.moved hW.alike hK, hD9⟩⟩, hS.F ht⟩) hS.2.2 dX8_tell_122
    · have hE := hE.trans (if_neg c_31)
      refine lv_iconst (v := 1) hx hb dX8_tell_117 (by decide) ?_
      refine lv_goto (tgt := 122) hx hb dX8_tell_118 (by decide) ?_
      have hP9 := hP.sub (ws' := [(h0, snC n0 k0 g0 sv h1 h2 h7), (h1, tmC tv), (h2, boC h3 h5 bv), (h3, mkC h4), (h4, .inl (cJ, 4, .inr (.inl f))), (h5, mkC h6), (h6, .inl (cJ, 4, .inr (.inl g))), (h7, cuC cv)]) [0, 1, 2, 3, 4, 5, 6, 7] rfl
      have hD9 := hD.sub (ws' := [(h0, snC n0 k0 g0 sv h1 h2 h7), (h1, tmC tv), (h2, boC h3 h5 bv), (h3, mkC h4), (h4, .inl (cJ, 4, .inr (.inl f))), (h5, mkC h6), (h6, .inl (cJ, 4, .inr (.inl g))), (h7, cuC cv)]) [0, 1, 2, 3, 4, 5, 6, 7] (by decide) rfl
      exact W.iret (v := 1) hx hb hr (fun t ht hW => ⟨⟨1, (), rfl, ⟨(by decide), (by rw [← hRES, hE])⟩, ⟨sv, tv, bv, cv, f, g, ⟨(by rw [← hRES, hE]), (by rw [← hRES, hE]), (by rw [← hRES, hE]), (by rw [← hRES, hE]), (by rw [← hRES, hE]), (by rw [← hRES, hE])⟩, by rw [ht]; exact hP9, va_K.moved hW.alike hK, hD9⟩⟩, hS.F ht⟩) hS.2.2 dX8_tell_122
  have hE := hE.trans (if_neg t_20_9)
  refine lv_tableOut (tgt := 123) hx hb dX8_tell_1 (by have h0 := lv_neT (a := 0) t_20_0 (by decide); have h1 := lv_neT (a := 1) t_20_1 (by decide); have h2 := lv_neT (a := 2) t_20_2 (by decide); have h3 := lv_neT (a := 3) t_20_3 (by decide); have h4 := lv_neT (a := 4) t_20_4 (by decide); have h5 := lv_neT (a := 5) t_20_5 (by decide); have h6 := lv_neT (a := 6) t_20_6 (by decide); have h7 := lv_neT (a := 7) t_20_7 (by decide); have h8 := lv_neT (a := 8) t_20_8 (by decide); have h9 := lv_neT (a := 9) t_20_9 (by decide); omega) (by decide) ?_
  refine lv_aload_n hx hb dX8_tell_123 rfl (lv_at hl 0 rfl) ?_
  refine lv_iload_n hx hb dX8_tell_124 rfl (lv_at hl 1 rfl) ?_
  have hPc := hP.sub (ws' := [(h0, snC n0 k0 g0 sv h1 h2 h7), (h1, tmC tv), (h2, boC h3 h5 bv), (h3, mkC h4), (h4, .inl (cJ, 4, .inr (.inl f))), (h5, mkC h6), (h6, .inl (cJ, 4, .inr (.inl g))), (h7, cuC cv)]) [0, 1, 2, 3, 4, 5, 6, 7] rfl
  have hDc := hD.sub (ws' := [(h0, snC n0 k0 g0 sv h1 h2 h7), (h1, tmC tv), (h2, boC h3 h5 bv), (h3, mkC h4), (h4, .inl (cJ, 4, .inr (.inl f))), (h5, mkC h6), (h6, .inl (cJ, 4, .inr (.inl g))), (h7, cuC cv)]) [0, 1, 2, 3, 4, 5, 6, 7] (by decide) rfl
  have hFc := va_free (wc := [(h0, snC n0 k0 g0 sv h1 h2 h7), (h1, tmC tv), (h2, boC h3 h5 bv), (h3, mkC h4), (h4, .inl (cJ, 4, .inr (.inl f))), (h5, mkC h6), (h6, .inl (cJ, 4, .inr (.inl g))), (h7, cuC cv)]) hD hS hA [0, 1, 2, 3, 4, 5, 6, 7] rfl
  refine va_calli (va_runV (As := [.int n1]) (rest := []) ⟨hx, hb, hml, hown, ha⟩ (s_tellMore l D cI cJ cZ cO _ h0 h1 h2 h3 h4 h5 h6 h7 n0 k0 g0 sv tv bv cv f g n1) (cwV 1 ha (gaV kl_X8_146 km_X8_tellMore ks_X8_tellMore kz_X8 kd_X8_tellMore) rfl rfl rfl (by decide +kernel) ⟨Nat.le_of_ble_eq_true rfl, Nat.le_of_ble_eq_true rfl⟩) ⟨pw_blind, va_recv hK hPc (ci := 8) (q0 := 0) rfl rfl, fun U hU hW => ⟨rfl, pw_start hU hW hPc hK hDc hN⟩⟩ rfl rfl hl.1 rfl (lv_room (Nat.le_of_ble_eq_true rfl)) dX8_tell_125 ⟨Nat.le_of_ble_eq_true rfl, Nat.le_of_ble_eq_true rfl⟩) hS (fun q _ h => hFc q h) hFc (fun r_32 u t H1 locs ht hvm hw hB hz1 hk1 hS => ?_)
  obtain ⟨sv, tv, bv, cv, f, g, ⟨hX0, hX1, hX2, hX3, hX4, hX5⟩, hP1, hK1, hD1⟩ := hB
  have hE := bd_at rfl hE
  have hE := bd_at hX0 hE
  have hE := bd_at hX1 hE
  have hE := bd_at hX2 hE
  have hE := bd_at hX3 hE
  have hE := bd_at hX4 hE
  have hE := bd_at hX5 hE
  have hE := bd_at hw.2 hE
  rw [ht] at hP1
  obtain ⟨hP, hD⟩ := va_join (wr := []) (w1 := [(h0, snC n0 k0 g0 sv h1 h2 h7), (h1, tmC tv), (h2, boC h3 h5 bv), (h3, mkC h4), (h4, .inl (cJ, 4, .inr (.inl f))), (h5, mkC h6), (h6, .inl (cJ, 4, .inr (.inl g))), (h7, cuC cv)]) hP hD [0, 1, 2, 3, 4, 5, 6, 7] [] rfl rfl (by decide) (by decide) hk1 hFc hP1 hD1
  generalize H1 = H at hP hS ⊢
  have hP : va_P D vwCl [(h0, snC n0 k0 g0 sv h1 h2 h7), (h1, tmC tv), (h2, boC h3 h5 bv), (h3, mkC h4), (h4, .inl (cJ, 4, .inr (.inl f))), (h5, mkC h6), (h6, .inl (cJ, 4, .inr (.inl g))), (h7, cuC cv)] H := hP
  have hD : va_D A [(h0, snC n0 k0 g0 sv h1 h2 h7), (h1, tmC tv), (h2, boC h3 h5 bv), (h3, mkC h4), (h4, .inl (cJ, 4, .inr (.inl f))), (h5, mkC h6), (h6, .inl (cJ, 4, .inr (.inl g))), (h7, cuC cv)] := hD
  refine W.widen (k := 0) (n := 0) (Nat.le_of_ble_eq_true rfl) (Nat.le_of_ble_eq_true rfl) ?_
  have hr_32 := hw.1
  have hP9 := hP.sub (ws' := [(h0, snC n0 k0 g0 sv h1 h2 h7), (h1, tmC tv), (h2, boC h3 h5 bv), (h3, mkC h4), (h4, .inl (cJ, 4, .inr (.inl f))), (h5, mkC h6), (h6, .inl (cJ, 4, .inr (.inl g))), (h7, cuC cv)]) [0, 1, 2, 3, 4, 5, 6, 7] rfl
  have hD9 := hD.sub (ws' := [(h0, snC n0 k0 g0 sv h1 h2 h7), (h1, tmC tv), (h2, boC h3 h5 bv), (h3, mkC h4), (h4, .inl (cJ, 4, .inr (.inl f))), (h5, mkC h6), (h6, .inl (cJ, 4, .inr (.inl g))), (h7, cuC cv)]) [0, 1, 2, 3, 4, 5, 6, 7] (by decide) rfl
  exact W.iret (v := r_32) hx hb hr (fun t ht hW => ⟨⟨r_32, (), rfl, ⟨(by decide), (by rw [← hRES, hE])⟩, ⟨sv, tv, bv, cv, f, g, ⟨(by rw [← hRES, hE]), (by rw [← hRES, hE]), (by rw [← hRES, hE]), (by rw [← hRES, hE]), (by rw [← hRES, hE]), (by rw [← hRES, hE])⟩, by rw [ht]; exact hP9, va_K.moved hW.alike hK, hD9⟩⟩, hS.F ht⟩) hS.2.2 dX8_tell_128

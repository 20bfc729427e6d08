set_option maxRecDepth 100000 in
def x_way (f : Int32) (kk : Int32) (mi : Nat → Int32) (ma : Nat → Nat → Int32) : XT := bd (ma 13 kk.toNatClampNeg) (fun v1 => bd (va_up ma 13 (upd (ma 13) f.toNatClampNeg v1)) (fun a2 => bd (a2 14 kk.toNatClampNeg) (fun v3 => bd (va_up a2 14 (upd (a2 14) f.toNatClampNeg v3)) (fun a4 => bd (a4 15 kk.toNatClampNeg) (fun v5 => bd (va_up a4 15 (upd (a4 15) f.toNatClampNeg v5)) (fun a6 => bd (a6 16 kk.toNatClampNeg) (fun v7 => bd (va_up a6 16 (upd (a6 16) f.toNatClampNeg (vp_nar .boolean v7))) (fun a8 => (mi, a8, 0)))))))))
set_option maxHeartbeats 4000000 in
set_option maxRecDepth 100000 in
theorem m_way (l : Launch) (D : va_G) (cI cJ cZ cO : ClassId) (sz : Nat) (h0 : Nat) (mq : Nat → Nat) (mi : Nat → Int32) (ma : Nat → Nat → Int32) (ph : Nat) (cl : Int) (f kk : Int32) (hI : MB mi ma) (hf0 : 0 ≤ f.toInt) (hf5 : f.toInt < 4096) (hk0 : 0 ≤ kk.toInt) (hk4 : kk.toInt < 4096) : Met l yX11_way (wa yX11_way cX11_way 3 none) ({ frames := 0, cells := 0, slots := 0, locals := 0 }) (va_Pc [.ref h0, .int f, .int kk] (pw_s D cI cJ cZ cO sz (mw cI cZ h0 mq mi ma))) (va_Qv (fun (_ : Unit) => True) (fun (_ : Unit) (t : State) => ∃ (mi2 : Nat → Int32) (ma2 : Nat → Nat → Int32), ((MB mi2 ma2 ∧ (∀ k, k ∉ ([] : List Nat) → mi2 k = mi k) ∧ (∀ k, k ∉ ([13, 14, 15, 16] : List Nat) → ma2 k = ma k) ∧ ma2 13 = upd (ma 13) f.toNatClampNeg (ma 13 kk.toNatClampNeg)) ∧ mi2 = (x_way f kk mi ma).1 ∧ ma2 = (x_way f kk mi ma).2.1) ∧ pw_t D cI cJ cZ cO (va_A (mw cI cZ h0 mq mi ma) sz) (mw cI cZ h0 mq mi2 ma2) t) (va_A (mw cI cZ h0 mq mi ma) sz)) 0 0 (va_A (mw cI cZ h0 mq mi ma) sz) := by
  refine Met.ofW (cc := cX11_way) (maxL := 3) (ret := none) (by decide) rfl ?_
  intro p e s m args below meth c s₁ B hml hv
  obtain ⟨rfl, hsz, hP, hK, hD0, hN⟩ := hv
  have hx := B.exec
  have hb := B.bytes
  have hr := B.returns
  have hts := atoms_spec (ws := (wa yX11_way cX11_way 3 none)) B.pre
  have ha : ∀ w ∈ wsL_law, w.before _ s = true := fun w h => hts w (List.mem_cons_of_mem _ h)
  have hown : s.vm.findClass RX11 = some m.cls := findClass_of_methodNamed B.named
  have hlocks := B.notSynchronized
  subst hsz
  have hD := hD0.self (sz := s.heap.size)
  generalize hAe : va_A (mw cI cZ h0 mq mi ma) s.heap.size = A at hD ⊢
  have hA : ∀ q : Nat, s.heap.size ≤ q → A q := fun q h => by rw [← hAe]; exact Or.inr h
  have hS : va_S A s.heap s.heap [] := va_S.rf
  have hP : va_P D vwCl (mw cI cZ h0 mq mi ma) s.heap := hP
  have hl := lv_entry ([.ref h0, .int f, .int kk]) (n := 3) (Nat.le_of_ble_eq_true rfl)
  rw [lg_entry_eq]
  generalize (lg_sl ([.ref h0, .int f, .int kk]) ++ List.replicate (3 - (lg_sl ([.ref h0, .int f, .int kk])).length) Slot.unset).toArray = ls at hl ⊢
  have hl : lv_has ls 3 [(0, .ref h0), (1, .int f), (2, .int kk)] := hl
  have kc_m1 := tk_m1
  have kc_0 := tk_0
  have kc_1 := tk_1
  obtain ⟨mi0, hmi0⟩ : ∃ y, y = mi := ⟨_, rfl⟩
  obtain ⟨ma0, hma0⟩ : ∃ y, y = ma := ⟨_, rfl⟩
  have hFI : ∀ k, k ∉ ([] : List Nat) → mi k = mi0 k := fun k _ => by rw [hmi0]
  have hFA : ∀ k, k ∉ ([13, 14, 15, 16] : List Nat) → ma k = ma0 k := fun k _ => by rw [hma0]
  obtain ⟨QP, hQP⟩ : ∃ y : State → Prop, y = (MQ below (va_Qv (fun (_ : Unit) => True) (fun (_ : Unit) (t : State) => ∃ (mi2 : Nat → Int32) (ma2 : Nat → Nat → Int32), ((MB mi2 ma2 ∧ (∀ k, k ∉ ([] : List Nat) → mi2 k = mi k) ∧ (∀ k, k ∉ ([13, 14, 15, 16] : List Nat) → ma2 k = ma k) ∧ ma2 13 = upd (ma 13) f.toNatClampNeg (ma 13 kk.toNatClampNeg)) ∧ mi2 = (x_way f kk mi ma).1 ∧ ma2 = (x_way f kk mi ma).2.1) ∧ pw_t D cI cJ cZ cO A (mw cI cZ h0 mq mi2 ma2) t) A) #[(.ref h0 : Value), (.int f : Value), (.int kk : Value)] s 0 0 A) := ⟨_, rfl⟩
  obtain ⟨RES, hRES⟩ : ∃ y, y = (x_way f kk mi ma) := ⟨_, rfl⟩
  -- from the entry
  have hE := hRES
  unfold x_way at hE
  refine lv_aload_n hx hb dX11_way_0 rfl (lv_at hl 0 rfl) ?_
  refine va_get (D := D) (ci := 11) (v := .ref (mq 13)) (C := RX11) (T := TX11) (N := 74) hx hb ha inlX11 hown hK hP 0 mw_at0 rfl 13 (by decide) (ha _ kf_X11_33) (fun _ h9 => h9) rfl dX11_way_1 ?_
  refine lv_iload_n hx hb dX11_way_4 rfl (lv_at hl 1 rfl) ?_
  refine lv_aload_n hx hb dX11_way_5 rfl (lv_at hl 0 rfl) ?_
  refine va_get (D := D) (ci := 11) (v := .ref (mq 13)) (C := RX11) (T := TX11) (N := 74) hx hb ha inlX11 hown hK hP 0 mw_at0 rfl 13 (by decide) (ha _ kf_X11_33) (fun _ h9 => h9) rfl dX11_way_6 ?_
  refine lv_iload_n hx hb dX11_way_9 rfl (lv_at hl 2 rfl) ?_
  have hin_1 : vp_in kk 4096 := vpi_of (by omega) (by omega)
  refine va_iald hx hb hK hP 4 0 mw_at13 rfl hin_1 dX11_way_10 ?_
  refine lv_topi (fun x_2 ex_2 => ?_)
  have hE := bd_at ex_2 hE
  have u_x_2 := congrArg Int32.toInt ex_2
  have hin_3 : vp_in f 4096 := vpi_of (by omega) (by omega)
  refine va_iast hx hb hK hP hD hS 4 0 mw_at13 rfl hin_3 dX11_way_11 (fun H locs hP hD hS => ?_)
  have hP : va_P D vwCl (mw cI cZ h0 mq mi (va_up ma 13 (upd (ma 13) f.toNatClampNeg x_2))) H := mwP_13 hP
  have hD : va_D A (mw cI cZ h0 mq mi (va_up ma 13 (upd (ma 13) f.toNatClampNeg x_2))) := mwD_13 hD
  generalize hma_4 : va_up ma 13 (upd (ma 13) f.toNatClampNeg x_2) = ma_4 at hP hD
  have hI : MB mi ma_4 := by rw [← hma_4]; exact MBa_wayAt hI
  have hFA : ∀ k, k ∉ ([13, 14, 15, 16] : List Nat) → ma_4 k = ma0 k := fun k hk => by rw [← hma_4]; exact (va_up_ne _ _ (fun e => hk (by rw [e]; decide))).trans (hFA k hk)
  have hE := bs_at hma_4 hE
  refine lv_aload_n hx hb dX11_way_12 rfl (lv_at hl 0 rfl) ?_
  refine va_get (D := D) (ci := 11) (v := .ref (mq 14)) (C := RX11) (T := TX11) (N := 74) hx hb ha inlX11 hown hK hP 0 mw_at0 rfl 14 (by decide) (ha _ kf_X11_36) (fun _ h9 => h9) rfl dX11_way_13 ?_
  refine lv_iload_n hx hb dX11_way_16 rfl (lv_at hl 1 rfl) ?_
  refine lv_aload_n hx hb dX11_way_17 rfl (lv_at hl 0 rfl) ?_
  refine va_get (D := D) (ci := 11) (v := .ref (mq 14)) (C := RX11) (T := TX11) (N := 74) hx hb ha inlX11 hown hK hP 0 mw_at0 rfl 14 (by decide) (ha _ kf_X11_36) (fun _ h9 => h9) rfl dX11_way_18 ?_
  refine lv_iload_n hx hb dX11_way_21 rfl (lv_at hl 2 rfl) ?_
  have hin_5 : vp_in kk 4096 := vpi_of (by omega) (by omega)
  refine va_iald hx hb hK hP 5 0 mw_at14 rfl hin_5 dX11_way_22 ?_
  refine lv_topi (fun x_6 ex_6 => ?_)
  have hE := bd_at ex_6 hE
  have u_x_6 := congrArg Int32.toInt ex_6
  have r_x_6 := fw_ld (MB_wayFlow hI) hin_5 ex_6
  have hin_7 : vp_in f 4096 := vpi_of (by omega) (by omega)
  refine va_iast hx hb hK hP hD hS 5 0 mw_at14 rfl hin_7 dX11_way_23 (fun H locs hP hD hS => ?_)
  have hP : va_P D vwCl (mw cI cZ h0 mq mi (va_up ma_4 14 (upd (ma_4 14) f.toNatClampNeg x_6))) H := mwP_14 hP
  have hD : va_D A (mw cI cZ h0 mq mi (va_up ma_4 14 (upd (ma_4 14) f.toNatClampNeg x_6))) := mwD_14 hD
  generalize hma_8 : va_up ma_4 14 (upd (ma_4 14) f.toNatClampNeg x_6) = ma_8 at hP hD
  have hI : MB mi ma_8 := by rw [← hma_8]; exact MBa_wayFlow hI (by omega) r_x_6.2
  have hFA : ∀ k, k ∉ ([13, 14, 15, 16] : List Nat) → ma_8 k = ma0 k := fun k hk => by rw [← hma_8]; exact (va_up_ne _ _ (fun e => hk (by rw [e]; decide))).trans (hFA k hk)
  have hE := bs_at hma_8 hE
  refine lv_aload_n hx hb dX11_way_24 rfl (lv_at hl 0 rfl) ?_
  refine va_get (D := D) (ci := 11) (v := .ref (mq 15)) (C := RX11) (T := TX11) (N := 74) hx hb ha inlX11 hown hK hP 0 mw_at0 rfl 15 (by decide) (ha _ kf_X11_39) (fun _ h9 => h9) rfl dX11_way_25 ?_
  refine lv_iload_n hx hb dX11_way_28 rfl (lv_at hl 1 rfl) ?_
  refine lv_aload_n hx hb dX11_way_29 rfl (lv_at hl 0 rfl) ?_
  refine va_get (D := D) (ci := 11) (v := .ref (mq 15)) (C := RX11) (T := TX11) (N := 74) hx hb ha inlX11 hown hK hP 0 mw_at0 rfl 15 (by decide) (ha _ kf_X11_39) (fun _ h9 => h9) rfl dX11_way_30 ?_
  refine lv_iload_n hx hb dX11_way_33 rfl (lv_at hl 2 rfl) ?_
  have hin_9 : vp_in kk 4096 := vpi_of (by omega) (by omega)
  refine va_iald hx hb hK hP 6 0 mw_at15 rfl hin_9 dX11_way_34 ?_
  refine lv_topi (fun x_10 ex_10 => ?_)
  have hE := bd_at ex_10 hE
  have u_x_10 := congrArg Int32.toInt ex_10
  have r_x_10 := rg_ld (MB_waySegment hI) hin_9 ex_10
  have hin_11 : vp_in f 4096 := vpi_of (by omega) (by omega)
  refine va_iast hx hb hK hP hD hS 6 0 mw_at15 rfl hin_11 dX11_way_35 (fun H locs hP hD hS => ?_)
  have hP : va_P D vwCl (mw cI cZ h0 mq mi (va_up ma_8 15 (upd (ma_8 15) f.toNatClampNeg x_10))) H := mwP_15 hP
  have hD : va_D A (mw cI cZ h0 mq mi (va_up ma_8 15 (upd (ma_8 15) f.toNatClampNeg x_10))) := mwD_15 hD
  generalize hma_12 : va_up ma_8 15 (upd (ma_8 15) f.toNatClampNeg x_10) = ma_12 at hP hD
  have hI : MB mi ma_12 := by rw [← hma_12]; exact MBa_waySegment hI (by omega) (by omega)
  have hFA : ∀ k, k ∉ ([13, 14, 15, 16] : List Nat) → ma_12 k = ma0 k := fun k hk => by rw [← hma_12]; exact (va_up_ne _ _ (fun e => hk (by rw [e]; decide))).trans (hFA k hk)
  have hE := bs_at hma_12 hE
  refine lv_aload_n hx hb dX11_way_36 rfl (lv_at hl 0 rfl) ?_
  refine va_get (D := D) (ci := 11) (v := .ref (mq 16)) (C := RX11) (T := TX11) (N := 74) hx hb ha inlX11 hown hK hP 0 mw_at0 rfl 16 (by decide) (ha _ kf_X11_42) (fun _ h9 => h9) rfl dX11_way_37 ?_
  refine lv_iload_n hx hb dX11_way_40 rfl (lv_at hl 1 rfl) ?_
  refine lv_aload_n hx hb dX11_way_41 rfl (lv_at hl 0 rfl) ?_
  refine va_get (D := D) (ci := 11) (v := .ref (mq 16)) (C := RX11) (T := TX11) (N := 74) hx hb ha inlX11 hown hK hP 0 mw_at0 rfl 16 (by decide) (ha _ kf_X11_42) (fun _ h9 => h9) rfl dX11_way_42 ?_
  refine lv_iload_n hx hb dX11_way_45 rfl (lv_at hl 2 rfl) ?_
  have hin_13 : vp_in kk 4096 := vpi_of (by omega) (by omega)
  refine va_zald hx hb hK hP 7 2 mw_at16 rfl hin_13 dX11_way_46 ?_
  refine lv_topi (fun x_14 ex_14 => ?_)
  have hE := bd_at ex_14 hE
  have u_x_14 := congrArg Int32.toInt ex_14
  have hin_15 : vp_in f 4096 := vpi_of (by omega) (by omega)
  refine va_zast hx hb hK hP hD hS 7 2 mw_at16 rfl hin_15 dX11_way_47 (fun H locs hP hD hS => ?_)
  have hP : va_P D vwCl (mw cI cZ h0 mq mi (va_up ma_12 16 (upd (ma_12 16) f.toNatClampNeg (vp_nar .boolean x_14)))) H := mwP_16 hP
  have hD : va_D A (mw cI cZ h0 mq mi (va_up ma_12 16 (upd (ma_12 16) f.toNatClampNeg (vp_nar .boolean x_14)))) := mwD_16 hD
  generalize hma_16 : va_up ma_12 16 (upd (ma_12 16) f.toNatClampNeg (vp_nar .boolean x_14)) = ma_16 at hP hD
  have hI : MB mi ma_16 := by rw [← hma_16]; exact MBa_wayProbe hI
  have hFA : ∀ k, k ∉ ([13, 14, 15, 16] : List Nat) → ma_16 k = ma0 k := fun k hk => by rw [← hma_16]; exact (va_up_ne _ _ (fun e => hk (by rw [e]; decide))).trans (hFA k hk)
  have hE := bs_at hma_16 hE
  exact W.vret hx hb hr (fun t ht hW => ⟨⟨(), rfl, trivial, ⟨mi, ma_16, ⟨⟨hI, fun k hk => (hFI k hk).trans (by rw [hmi0]), fun k hk => (hFA k hk).trans (by rw [hma0]), (((congrFun hma_16 13).symm).trans (((congrFun hma_12 13).symm).trans ((congrFun hma_8 13).symm))).trans ((congrFun hma_4 13).symm.trans (by show upd (ma 13) f.toNatClampNeg x_2 = _; rw [ex_2]))⟩, by rw [← hRES, hE], by rw [← hRES, hE]⟩, by rw [ht]; exact hP, va_K.moved hW.alike hK, hD⟩⟩, hS.F ht⟩) hS.2.2 dX11_way_48

theorem MBi_wf {mi : Nat → Int32} {ma : Nat → Nat → Int32} {v : Int32} (h : MB mi ma) (h1 : 0 ≤ v.toInt) (h2 : v.toInt ≤ 4096) (h3 : 1 ≤ (mi 32).toInt) : MB (upd mi 10 v) ma := ⟨h.1, h.2.1, h.2.2.1, h.2.2.2.1, h.2.2.2.2.1, h.2.2.2.2.2.1, h.2.2.2.2.2.2.1, ⟨h1, h2⟩, h.2.2.2.2.2.2.2.2.1, h.2.2.2.2.2.2.2.2.2.1, h.2.2.2.2.2.2.2.2.2.2.1, h.2.2.2.2.2.2.2.2.2.2.2.1, h.2.2.2.2.2.2.2.2.2.2.2.2.1, h.2.2.2.2.2.2.2.2.2.2.2.2.2.1, h.2.2.2.2.2.2.2.2.2.2.2.2.2.2.1, h.2.2.2.2.2.2.2.2.2.2.2.2.2.2.2.1, h.2.2.2.2.2.2.2.2.2.2.2.2.2.2.2.2.1, h.2.2.2.2.2.2.2.2.2.2.2.2.2.2.2.2.2.1, h.2.2.2.2.2.2.2.2.2.2.2.2.2.2.2.2.2.2.1, h.2.2.2.2.2.2.2.2.2.2.2.2.2.2.2.2.2.2.2.1, h.2.2.2.2.2.2.2.2.2.2.2.2.2.2.2.2.2.2.2.2.1, h.2.2.2.2.2.2.2.2.2.2.2.2.2.2.2.2.2.2.2.2.2.1, h.2.2.2.2.2.2.2.2.2.2.2.2.2.2.2.2.2.2.2.2.2.2.1, h.2.2.2.2.2.2.2.2.2.2.2.2.2.2.2.2.2.2.2.2.2.2.2.1, h.2.2.2.2.2.2.2.2.2.2.2.2.2.2.2.2.2.2.2.2.2.2.2.2.1, h.2.2.2.2.2.2.2.2.2.2.2.2.2.2.2.2.2.2.2.2.2.2.2.2.2.1, h.2.2.2.2.2.2.2.2.2.2.2.2.2.2.2.2.2.2.2.2.2.2.2.2.2.2.1, h.2.2.2.2.2.2.2.2.2.2.2.2.2.2.2.2.2.2.2.2.2.2.2.2.2.2.2.1, h.2.2.2.2.2.2.2.2.2.2.2.2.2.2.2.2.2.2.2.2.2.2.2.2.2.2.2.2.1, h.2.2.2.2.2.2.2.2.2.2.2.2.2.2.2.2.2.2.2.2.2.2.2.2.2.2.2.2.2.1, h.2.2.2.2.2.2.2.2.2.2.2.2.2.2.2.2.2.2.2.2.2.2.2.2.2.2.2.2.2.2.1, h.2.2.2.2.2.2.2.2.2.2.2.2.2.2.2.2.2.2.2.2.2.2.2.2.2.2.2.2.2.2.2.1, h.2.2.2.2.2.2.2.2.2.2.2.2.2.2.2.2.2.2.2.2.2.2.2.2.2.2.2.2.2.2.2.2.1, h.2.2.2.2.2.2.2.2.2.2.2.2.2.2.2.2.2.2.2.2.2.2.2.2.2.2.2.2.2.2.2.2.2.1, fun q => by have q2 : (mi 32).toInt = 0 := q; omega⟩
theorem MBi_we {mi : Nat → Int32} {ma : Nat → Nat → Int32} {v : Int32} (h : MB mi ma) (h1 : 0 ≤ v.toInt) (h2 : v.toInt ≤ 4096) (h3 : 1 ≤ (mi 32).toInt) : MB (upd mi 11 v) ma := ⟨h.1, h.2.1, h.2.2.1, h.2.2.2.1, h.2.2.2.2.1, h.2.2.2.2.2.1, h.2.2.2.2.2.2.1, h.2.2.2.2.2.2.2.1, ⟨h1, h2⟩, h.2.2.2.2.2.2.2.2.2.1, h.2.2.2.2.2.2.2.2.2.2.1, h.2.2.2.2.2.2.2.2.2.2.2.1, h.2.2.2.2.2.2.2.2.2.2.2.2.1, h.2.2.2.2.2.2.2.2.2.2.2.2.2.1, h.2.2.2.2.2.2.2.2.2.2.2.2.2.2.1, h.2.2.2.2.2.2.2.2.2.2.2.2.2.2.2.1, h.2.2.2.2.2.2.2.2.2.2.2.2.2.2.2.2.1, h.2.2.2.2.2.2.2.2.2.2.2.2.2.2.2.2.2.1, h.2.2.2.2.2.2.2.2.2.2.2.2.2.2.2.2.2.2.1, h.2.2.2.2.2.2.2.2.2.2.2.2.2.2.2.2.2.2.2.1, h.2.2.2.2.2.2.2.2.2.2.2.2.2.2.2.2.2.2.2.2.1, h.2.2.2.2.2.2.2.2.2.2.2.2.2.2.2.2.2.2.2.2.2.1, h.2.2.2.2.2.2.2.2.2.2.2.2.2.2.2.2.2.2.2.2.2.2.1, h.2.2.2.2.2.2.2.2.2.2.2.2.2.2.2.2.2.2.2.2.2.2.2.1, h.2.2.2.2.2.2.2.2.2.2.2.2.2.2.2.2.2.2.2.2.2.2.2.2.1, h.2.2.2.2.2.2.2.2.2.2.2.2.2.2.2.2.2.2.2.2.2.2.2.2.2.1, h.2.2.2.2.2.2.2.2.2.2.2.2.2.2.2.2.2.2.2.2.2.2.2.2.2.2.1, h.2.2.2.2.2.2.2.2.2.2.2.2.2.2.2.2.2.2.2.2.2.2.2.2.2.2.2.1, h.2.2.2.2.2.2.2.2.2.2.2.2.2.2.2.2.2.2.2.2.2.2.2.2.2.2.2.2.1, h.2.2.2.2.2.2.2.2.2.2.2.2.2.2.2.2.2.2.2.2.2.2.2.2.2.2.2.2.2.1, h.2.2.2.2.2.2.2.2.2.2.2.2.2.2.2.2.2.2.2.2.2.2.2.2.2.2.2.2.2.2.1, h.2.2.2.2.2.2.2.2.2.2.2.2.2.2.2.2.2.2.2.2.2.2.2.2.2.2.2.2.2.2.2.1, h.2.2.2.2.2.2.2.2.2.2.2.2.2.2.2.2.2.2.2.2.2.2.2.2.2.2.2.2.2.2.2.2.1, h.2.2.2.2.2.2.2.2.2.2.2.2.2.2.2.2.2.2.2.2.2.2.2.2.2.2.2.2.2.2.2.2.2.1, fun q => by have q2 : (mi 32).toInt = 0 := q; omega⟩
theorem MBi_af {mi : Nat → Int32} {ma : Nat → Nat → Int32} {v : Int32} (h : MB mi ma) (h1 : 0 ≤ v.toInt) (h2 : v.toInt ≤ 6000) (h3 : 1 ≤ (mi 32).toInt) : MB (upd mi 17 v) ma := ⟨h.1, h.2.1, h.2.2.1, h.2.2.2.1, h.2.2.2.2.1, h.2.2.2.2.2.1, h.2.2.2.2.2.2.1, h.2.2.2.2.2.2.2.1, h.2.2.2.2.2.2.2.2.1, ⟨h1, h2⟩, h.2.2.2.2.2.2.2.2.2.2.1, h.2.2.2.2.2.2.2.2.2.2.2.1, h.2.2.2.2.2.2.2.2.2.2.2.2.1, h.2.2.2.2.2.2.2.2.2.2.2.2.2.1, h.2.2.2.2.2.2.2.2.2.2.2.2.2.2.1, h.2.2.2.2.2.2.2.2.2.2.2.2.2.2.2.1, h.2.2.2.2.2.2.2.2.2.2.2.2.2.2.2.2.1, h.2.2.2.2.2.2.2.2.2.2.2.2.2.2.2.2.2.1, h.2.2.2.2.2.2.2.2.2.2.2.2.2.2.2.2.2.2.1, h.2.2.2.2.2.2.2.2.2.2.2.2.2.2.2.2.2.2.2.1, h.2.2.2.2.2.2.2.2.2.2.2.2.2.2.2.2.2.2.2.2.1, h.2.2.2.2.2.2.2.2.2.2.2.2.2.2.2.2.2.2.2.2.2.1, h.2.2.2.2.2.2.2.2.2.2.2.2.2.2.2.2.2.2.2.2.2.2.1, h.2.2.2.2.2.2.2.2.2.2.2.2.2.2.2.2.2.2.2.2.2.2.2.1, h.2.2.2.2.2.2.2.2.2.2.2.2.2.2.2.2.2.2.2.2.2.2.2.2.1, h.2.2.2.2.2.2.2.2.2.2.2.2.2.2.2.2.2.2.2.2.2.2.2.2.2.1, h.2.2.2.2.2.2.2.2.2.2.2.2.2.2.2.2.2.2.2.2.2.2.2.2.2.2.1, h.2.2.2.2.2.2.2.2.2.2.2.2.2.2.2.2.2.2.2.2.2.2.2.2.2.2.2.1, h.2.2.2.2.2.2.2.2.2.2.2.2.2.2.2.2.2.2.2.2.2.2.2.2.2.2.2.2.1, h.2.2.2.2.2.2.2.2.2.2.2.2.2.2.2.2.2.2.2.2.2.2.2.2.2.2.2.2.2.1, h.2.2.2.2.2.2.2.2.2.2.2.2.2.2.2.2.2.2.2.2.2.2.2.2.2.2.2.2.2.2.1, h.2.2.2.2.2.2.2.2.2.2.2.2.2.2.2.2.2.2.2.2.2.2.2.2.2.2.2.2.2.2.2.1, h.2.2.2.2.2.2.2.2.2.2.2.2.2.2.2.2.2.2.2.2.2.2.2.2.2.2.2.2.2.2.2.2.1, h.2.2.2.2.2.2.2.2.2.2.2.2.2.2.2.2.2.2.2.2.2.2.2.2.2.2.2.2.2.2.2.2.2.1, fun q => by have q2 : (mi 32).toInt = 0 := q; omega⟩
theorem MBi_ae {mi : Nat → Int32} {ma : Nat → Nat → Int32} {v : Int32} (h : MB mi ma) (h1 : 0 ≤ v.toInt) (h2 : v.toInt ≤ 6000) (h3 : 1 ≤ (mi 32).toInt) : MB (upd mi 18 v) ma := ⟨h.1, h.2.1, h.2.2.1, h.2.2.2.1, h.2.2.2.2.1, h.2.2.2.2.2.1, h.2.2.2.2.2.2.1, h.2.2.2.2.2.2.2.1, h.2.2.2.2.2.2.2.2.1, h.2.2.2.2.2.2.2.2.2.1, ⟨h1, h2⟩, h.2.2.2.2.2.2.2.2.2.2.2.1, h.2.2.2.2.2.2.2.2.2.2.2.2.1, h.2.2.2.2.2.2.2.2.2.2.2.2.2.1, h.2.2.2.2.2.2.2.2.2.2.2.2.2.2.1, h.2.2.2.2.2.2.2.2.2.2.2.2.2.2.2.1, h.2.2.2.2.2.2.2.2.2.2.2.2.2.2.2.2.1, h.2.2.2.2.2.2.2.2.2.2.2.2.2.2.2.2.2.1, h.2.2.2.2.2.2.2.2.2.2.2.2.2.2.2.2.2.2.1, h.2.2.2.2.2.2.2.2.2.2.2.2.2.2.2.2.2.2.2.1, h.2.2.2.2.2.2.2.2.2.2.2.2.2.2.2.2.2.2.2.2.1, h.2.2.2.2.2.2.2.2.2.2.2.2.2.2.2.2.2.2.2.2.2.1, h.2.2.2.2.2.2.2.2.2.2.2.2.2.2.2.2.2.2.2.2.2.2.1, h.2.2.2.2.2.2.2.2.2.2.2.2.2.2.2.2.2.2.2.2.2.2.2.1, h.2.2.2.2.2.2.2.2.2.2.2.2.2.2.2.2.2.2.2.2.2.2.2.2.1, h.2.2.2.2.2.2.2.2.2.2.2.2.2.2.2.2.2.2.2.2.2.2.2.2.2.1, h.2.2.2.2.2.2.2.2.2.2.2.2.2.2.2.2.2.2.2.2.2.2.2.2.2.2.1, h.2.2.2.2.2.2.2.2.2.2.2.2.2.2.2.2.2.2.2.2.2.2.2.2.2.2.2.1, h.2.2.2.2.2.2.2.2.2.2.2.2.2.2.2.2.2.2.2.2.2.2.2.2.2.2.2.2.1, h.2.2.2.2.2.2.2.2.2.2.2.2.2.2.2.2.2.2.2.2.2.2.2.2.2.2.2.2.2.1, h.2.2.2.2.2.2.2.2.2.2.2.2.2.2.2.2.2.2.2.2.2.2.2.2.2.2.2.2.2.2.1, h.2.2.2.2.2.2.2.2.2.2.2.2.2.2.2.2.2.2.2.2.2.2.2.2.2.2.2.2.2.2.2.1, h.2.2.2.2.2.2.2.2.2.2.2.2.2.2.2.2.2.2.2.2.2.2.2.2.2.2.2.2.2.2.2.2.1, h.2.2.2.2.2.2.2.2.2.2.2.2.2.2.2.2.2.2.2.2.2.2.2.2.2.2.2.2.2.2.2.2.2.1, fun q => by have q2 : (mi 32).toInt = 0 := q; omega⟩

theorem wd_step {at_ at0 at2 : Nat → Int32} {n k : Int32} {f : Nat} {fi : Int} (h0 : 0 ≤ n.toInt) (h1 : 0 ≤ k.toInt) (hf : (f : Int) = fi) (hn : n.toInt = k.toInt - fi) (hnk : n.toInt ≤ k.toInt) (a : ∀ j : Nat, (j : Int) < n.toInt → at_ j = at0 (f + j)) (b : ∀ j : Nat, k.toInt ≤ j → at_ j = at0 j) (e : at2 = upd at_ n.toNatClampNeg (at_ k.toNatClampNeg)) {n2 k2 : Int32} (e1 : n2.toInt = n.toInt + 1) (e2 : k2.toInt = k.toInt + 1) : (∀ j : Nat, (j : Int) < n2.toInt → at2 j = at0 (f + j)) ∧ ∀ j : Nat, k2.toInt ≤ j → at2 j = at0 j := by
  have cn := cl_toInt h0
  have ck := cl_toInt h1
  have q : ∀ j, at2 j = if j = n.toNatClampNeg then at_ k.toNatClampNeg else at_ j := fun j => by rw [e]; rfl
  refine ⟨fun j hj => ?_, fun j hj => ?_⟩
  · rw [q j]
    by_cases w : j = n.toNatClampNeg
    · rw [if_pos w, b _ (by omega)]
      congr 1
      omega
    · rw [if_neg w]; exact a j (by omega)
  · rw [q j, if_neg (by omega)]; exact b j (by omega)

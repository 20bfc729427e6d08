set_option maxRecDepth 100000 in
def x_wayDown_7 : Nat → (Nat → Int32) → (Nat → Nat → Int32) → Int32 → Int32 → XT
  | 0, mi, ma, _, _ => (mi, ma, 0)
  | fu + 1, mi, ma, i1, i2 => bd (mi 11) (fun v1 => (if v1 ≤ i2 then bd (upd mi 10 (0 : Int32)) (fun m2 => bd (upd m2 11 i1) (fun m3 => (m3, ma, 0))) else bc (x_way i1 i2 mi ma) (fun m4 a5 _ => bd (i1 + 1) (fun v7 => bd (i2 + 1) (fun v8 => x_wayDown_7 fu m4 a5 v7 v8)))))
set_option maxRecDepth 100000 in
def x_wayDown (mi : Nat → Int32) (ma : Nat → Nat → Int32) : XT := bd (mi 10) (fun v9 => x_wayDown_7 (((mi 11).toInt - v9.toInt + 1).toNat) mi ma (0 : Int32) v9)
set_option maxHeartbeats 4000000 in
set_option maxRecDepth 100000 in
theorem m_wayDown (l : Launch) (D : va_G) (cI cJ cZ cO : ClassId) (sz : Nat) (h0 : Nat) (mq : Nat → Nat) (mi : Nat → Int32) (ma : Nat → Nat → Int32) (ph : Nat) (cl : Int) (hI : MB mi ma) (hF : 1 ≤ (mi 32).toInt) (hDW : (mi 10).toInt ≤ (mi 11).toInt) : Met l yX11_wayDown (wa yX11_wayDown cX11_wayDown 3 none) ({ frames := 1, cells := 0, slots := 0, locals := 22 }) (va_Pc [.ref h0] (pw_s D cI cJ cZ cO sz (mw cI cZ h0 mq mi ma))) (va_Qv (fun (_ : Unit) => True) (fun (_ : Unit) (t : State) => ∃ (mi2 : Nat → Int32) (ma2 : Nat → Nat → Int32), ((MB mi2 ma2 ∧ (∀ k, k ∉ ([10, 11] : List Nat) → mi2 k = mi k) ∧ (∀ k, k ∉ ([13, 14, 15, 16] : List Nat) → ma2 k = ma k) ∧ ((mi2 10).toInt = 0 ∧ (mi2 11).toInt = (mi 11).toInt - (mi 10).toInt ∧ ∀ j : Nat, (j : Int) < (mi2 11).toInt → ma2 13 j = ma 13 ((mi 10).toNatClampNeg + j))) ∧ mi2 = (x_wayDown mi ma).1 ∧ ma2 = (x_wayDown mi ma).2.1) ∧ pw_t D cI cJ cZ cO (va_A (mw cI cZ h0 mq mi ma) sz) (mw cI cZ h0 mq mi2 ma2) t) (va_A (mw cI cZ h0 mq mi ma) sz)) 0 0 (va_A (mw cI cZ h0 mq mi ma) sz) := by
  refine Met.ofW (cc := cX11_wayDown) (maxL := 3) (ret := none) (by decide) rfl ?_
  intro p e s m args below meth c s₁ B hml hv
  obtain ⟨rfl, hsz, hP, hK, hD0, hN⟩ := hv
  have hx := B.exec
  have hb := B.bytes
  have hr := B.returns
  have hts := atoms_spec (ws := (wa yX11_wayDown cX11_wayDown 3 none)) B.pre
  have ha : ∀ w ∈ wsL_law, w.before _ s = true := fun w h => hts w (List.mem_cons_of_mem _ h)
  have hown : s.vm.findClass RX11 = some m.cls := findClass_of_methodNamed B.named
  have hlocks := B.notSynchronized
  subst hsz
  have hD := hD0.self (sz := s.heap.size)
  generalize hAe : va_A (mw cI cZ h0 mq mi ma) s.heap.size = A at hD ⊢
  have hA : ∀ q : Nat, s.heap.size ≤ q → A q := fun q h => by rw [← hAe]; exact Or.inr h
  have hS : va_S A s.heap s.heap [] := va_S.rf
  have hP : va_P D vwCl (mw cI cZ h0 mq mi ma) s.heap := hP
  have hl := lv_entry ([.ref h0]) (n := 3) (Nat.le_of_ble_eq_true rfl)
  rw [lg_entry_eq]
  generalize (lg_sl ([.ref h0]) ++ List.replicate (3 - (lg_sl ([.ref h0])).length) Slot.unset).toArray = ls at hl ⊢
  have hl : lv_has ls 3 [(0, .ref h0)] := hl
  have kc_m1 := tk_m1
  have kc_0 := tk_0
  have kc_1 := tk_1
  obtain ⟨mi0, hmi0⟩ : ∃ y, y = mi := ⟨_, rfl⟩
  obtain ⟨ma0, hma0⟩ : ∃ y, y = ma := ⟨_, rfl⟩
  have hFI : ∀ k, k ∉ ([10, 11] : List Nat) → mi k = mi0 k := fun k _ => by rw [hmi0]
  have hFA : ∀ k, k ∉ ([13, 14, 15, 16] : List Nat) → ma k = ma0 k := fun k _ => by rw [hma0]
  obtain ⟨QP, hQP⟩ : ∃ y : State → Prop, y = (MQ below (va_Qv (fun (_ : Unit) => True) (fun (_ : Unit) (t : State) => ∃ (mi2 : Nat → Int32) (ma2 : Nat → Nat → Int32), ((MB mi2 ma2 ∧ (∀ k, k ∉ ([10, 11] : List Nat) → mi2 k = mi k) ∧ (∀ k, k ∉ ([13, 14, 15, 16] : List Nat) → ma2 k = ma k) ∧ ((mi2 10).toInt = 0 ∧ (mi2 11).toInt = (mi 11).toInt - (mi 10).toInt ∧ ∀ j : Nat, (j : Int) < (mi2 11).toInt → ma2 13 j = ma 13 ((mi 10).toNatClampNeg + j))) ∧ mi2 = (x_wayDown mi ma).1 ∧ ma2 = (x_wayDown mi ma).2.1) ∧ pw_t D cI cJ cZ cO A (mw cI cZ h0 mq mi2 ma2) t) A) #[(.ref h0 : Value)] s 0 0 A) := ⟨_, rfl⟩
  obtain ⟨RES, hRES⟩ : ∃ y, y = (x_wayDown mi ma) := ⟨_, rfl⟩
  have y10 : (mi0 10).toInt = (mi 10).toInt := by rw [hmi0]
  have y11 : (mi0 11).toInt = (mi 11).toInt := by rw [hmi0]
  have J_7 : ∀ (n_7 : Nat), ∀ (mi : Nat → Int32) (ma : Nat → Nat → Int32) (i1 : Int32) (i2 : Int32) (H : Heap) (locs : List Loc), va_P D vwCl (mw cI cZ h0 mq mi ma) H → va_D A (mw cI cZ h0 mq mi ma) → va_S A s.heap H locs → MB mi ma → (∀ k, k ∉ ([10, 11] : List Nat) → mi k = mi0 k) → (∀ k, k ∉ ([13, 14, 15, 16] : List Nat) → ma k = ma0 k) → RES = x_wayDown_7 n_7 mi ma i1 i2 → ((mi 10 = mi0 10 ∧ mi 11 = mi0 11) ∧ 0 ≤ i1.toInt ∧ i1.toInt = i2.toInt - (mi0 10).toInt ∧ (mi0 10).toInt ≤ i2.toInt ∧ i2.toInt ≤ (mi0 11).toInt ∧ (∀ j : Nat, (j : Int) < i1.toInt → ma 13 j = ma0 13 ((mi0 10).toNatClampNeg + j)) ∧ ∀ j : Nat, i2.toInt ≤ j → ma 13 j = ma0 13 j) → ∀ (ls : Array Slot), lv_has ls 3 [(0, .ref h0), (1, .int i1), (2, .int i2)] → (((mi0 11).toInt - i2.toInt).toNat) < n_7 → W p l e ({ frames := 1, cells := 0, slots := 0, locals := 22 }) s m #[(.ref h0 : Value)] below meth c H locs 0 0 QP (F0 m 7 ls []) := by
    intro n_7
    induction n_7 with
    | zero => intros; exact absurd ‹_ < 0› (Nat.not_lt_zero _)
    | succ n_7 ih_7 =>
      intro mi ma i1 i2 H locs hP hD hS hI hFI hFA hE hv ls hl hm
      rw [x_wayDown_7] at hE
      have v1 := congrArg Int32.toInt hv.1.1
      have v2 := congrArg Int32.toInt hv.1.2
      have v3 := MB_wayFirst hI
      have v4 := MB_wayEnd hI
      refine lv_iload_n hx hb dX11_wayDown_7 rfl (lv_at hl 2 rfl) ?_
      refine lv_aload_n hx hb dX11_wayDown_8 rfl (lv_at hl 0 rfl) ?_
      refine va_get (D := D) (ci := 11) (v := .int (mi 11)) (C := RX11) (T := TX11) (N := 74) hx hb ha inlX11 hown hK hP 0 mw_at0 rfl 11 (by decide) (ha _ kf_X11_236) (fun _ h9 => h9) rfl dX11_wayDown_9 ?_
      refine lv_topi (fun x_1 ex_1 => ?_)
      have hE := bd_at ex_1 hE
      have u_x_1 := congrArg Int32.toInt ex_1
      have r_x_1 := MB_wayEnd hI
      rw [← ex_1] at r_x_1
      refine lv_icmp_ge (tgt := 30) hx hb dX11_wayDown_12 (by decide) (fun c_2 => ?_) (fun c_2 => ?_)
      · have t_c_2 := Int32.le_iff_toInt_le.mp c_2
        have hE := hE.trans (if_pos c_2)
        refine lv_aload_n hx hb dX11_wayDown_30 rfl (lv_at hl 0 rfl) ?_
        refine lv_iconst (v := 0) hx hb dX11_wayDown_31 (by decide) ?_
        refine va_put (D := D) (ci := 11) (v := .int 0) (ty := .int) (C := RX11) (T := TX11) (N := 74) hx hb ha inlX11 tyX11 tyX11_ok nmX11 hown hK hP hD hS 0 mw_at0 rfl 10 (by decide) (ha _ kf_X11_242) (fun _ h9 => h9) rfl (by decide +kernel) rfl rfl (Nat.le_of_ble_eq_true rfl) dX11_wayDown_32 (fun H locs hP hD hS => ?_)
        have hP : va_P D vwCl (mw cI cZ h0 mq (upd mi 10 (0 : Int32)) ma) H := mwP_10 hP
        have hD : va_D A (mw cI cZ h0 mq (upd mi 10 (0 : Int32)) ma) := mwD_10 hD
        generalize hmi_3 : upd mi 10 (0 : Int32) = mi_3 at hP hD
        have hI : MB mi_3 ma := by rw [← hmi_3]; exact MBi_wf hI (by omega) (by omega) (by rw [hFI 32 (by decide), hmi0]; omega)
        have hFI : ∀ k, k ∉ ([10, 11] : List Nat) → mi_3 k = mi0 k := fun k hk => by rw [← hmi_3]; exact (if_neg (fun e => hk (by rw [e]; decide))).trans (hFI k hk)
        have hE := bs_at hmi_3 hE
        refine lv_aload_n hx hb dX11_wayDown_35 rfl (lv_at hl 0 rfl) ?_
        refine lv_iload_n hx hb dX11_wayDown_36 rfl (lv_at hl 1 rfl) ?_
        refine va_put (D := D) (ci := 11) (v := .int i1) (ty := .int) (C := RX11) (T := TX11) (N := 74) hx hb ha inlX11 tyX11 tyX11_ok nmX11 hown hK hP hD hS 0 mw_at0 rfl 11 (by decide) (ha _ kf_X11_236) (fun _ h9 => h9) rfl (by decide +kernel) rfl rfl (Nat.le_of_ble_eq_true rfl) dX11_wayDown_37 (fun H locs hP hD hS => ?_)
        have hP : va_P D vwCl (mw cI cZ h0 mq (upd mi_3 11 i1) ma) H := mwP_11 hP
        have hD : va_D A (mw cI cZ h0 mq (upd mi_3 11 i1) ma) := mwD_11 hD
        generalize hmi_4 : upd mi_3 11 i1 = mi_4 at hP hD
        have hI : MB mi_4 ma := by rw [← hmi_4]; exact MBi_we hI (by omega) (by omega) (by rw [hFI 32 (by decide), hmi0]; omega)
        have hFI : ∀ k, k ∉ ([10, 11] : List Nat) → mi_4 k = mi0 k := fun k hk => by rw [← hmi_4]; exact (if_neg (fun e => hk (by rw [e]; decide))).trans (hFI k hk)
        have hE := bs_at hmi_4 hE
        rw [hQP]
        exact W.vret hx hb hr (fun t ht hW => ⟨⟨(), rfl, trivial, ⟨mi_4, ma, ⟨⟨hI, fun k hk => (hFI k hk).trans (by rw [hmi0]), fun k hk => (hFA k hk).trans (by rw [hma0]), ⟨by have b1 : mi_4 10 = 0 := (congrFun hmi_4 10).symm.trans (congrFun hmi_3 10).symm; rw [b1]; decide, by have b2 : mi_4 11 = i1 := (congrFun hmi_4 11).symm; rw [b2, ← hmi0]; omega, fun j hj => by have b2 : mi_4 11 = i1 := (congrFun hmi_4 11).symm; rw [b2] at hj; rw [← hmi0, ← hma0]; exact hv.2.2.2.2.2.1 j hj⟩⟩, by rw [← hRES, hE], by rw [← hRES, hE]⟩, by rw [ht]; exact hP, va_K.moved hW.alike hK, hD⟩⟩, hS.F ht⟩) hS.2.2 dX11_wayDown_40
      · have t_c_2 := Int32.lt_iff_toInt_lt.mp (Int32.not_le.mp c_2)
        have hE := hE.trans (if_neg c_2)
        refine lv_aload_n hx hb dX11_wayDown_15 rfl (lv_at hl 0 rfl) ?_
        refine lv_iload_n hx hb dX11_wayDown_16 rfl (lv_at hl 1 rfl) ?_
        refine lv_iload_n hx hb dX11_wayDown_17 rfl (lv_at hl 2 rfl) ?_
        have hFc := va_freeW hD hS hA
        refine va_callv (va_runV (As := [.int i1, .int i2]) (rest := []) ⟨hx, hb, hml, hown, ha⟩ (m_way l D cI cJ cZ cO _ h0 mq mi ma ph cl i1 i2 hI (by omega) (by omega) (by omega) (by omega)) (cwV 2 ha (gaV kl_X11_249 km_X11_way ks_X11_way kz_X11 kd_X11_way) rfl rfl rfl (by decide +kernel) ⟨Nat.le_of_ble_eq_true rfl, Nat.le_of_ble_eq_true rfl⟩) ⟨pw_blind, va_recv hK hP (ci := 11) (q0 := 0) rfl rfl, fun U hU hW => ⟨rfl, pw_start hU hW hP hK hD hN⟩⟩ rfl rfl hl.1 rfl (lv_room (Nat.le_of_ble_eq_true rfl)) dX11_wayDown_18 ⟨Nat.le_of_ble_eq_true rfl, Nat.le_of_ble_eq_true rfl⟩) hS (fun q _ h => hFc q h) hFc (fun u t H1 locs ht hvm hw hB hz1 hk1 hS => ?_)
        obtain ⟨mi_6, ma_7, ⟨hf_8, hX1, hX2⟩, hP, hK1, hD1⟩ := hB
        have hE := bc_atv hX1 hX2 hE
        rw [ht] at hP
        have hD := hD1.weaken (fun k q _ h => hFc q.1 h)
        clear hD1
        generalize H1 = H at hP hS ⊢
        refine W.widen (k := 0) (n := 0) (Nat.le_refl _) (Nat.le_refl _) ?_
        have hI := hf_8.1
        have hFI : ∀ k, k ∉ ([10, 11] : List Nat) → mi_6 k = mi0 k := fun k hk => (hf_8.2.1 k (fun h => hk (by revert h; exact sub_of (by decide) k))).trans (hFI k hk)
        have hFA : ∀ k, k ∉ ([13, 14, 15, 16] : List Nat) → ma_7 k = ma0 k := fun k hk => (hf_8.2.2.1 k (fun h => hk (by revert h; exact sub_of (by decide) k))).trans (hFA k hk)
        obtain ⟨x_9, ex_9⟩ : ∃ y : Int32, y = i1 + 1 := ⟨_, rfl⟩
        have hE := bd_at ex_9 hE
        refine lv_iinc (v := x_9) (lv' := [(1, .int x_9), (0, .ref h0), (2, .int i2)]) hx hb dX11_wayDown_21 hl (k := 1) rfl (by rw [ex_9]; rfl) (by decide) rfl (fun ls hl => ?_)
        try have t_x_9 := ti_add ex_9 (by omega) (by omega)
        obtain ⟨x_10, ex_10⟩ : ∃ y : Int32, y = i2 + 1 := ⟨_, rfl⟩
        have hE := bd_at ex_10 hE
        refine lv_iinc (v := x_10) (lv' := [(2, .int x_10), (1, .int x_9), (0, .ref h0)]) hx hb dX11_wayDown_24 hl (k := 2) rfl (by rw [ex_10]; rfl) (by decide) rfl (fun ls hl => ?_)
        try have t_x_10 := ti_add ex_10 (by omega) (by omega)
        have hst := wd_step (n := i1) (k := i2) (n2 := x_9) (k2 := x_10) (fi := (mi0 10).toInt) (by omega) (by omega) (cl_toInt (by omega)) (by omega) (by omega) hv.2.2.2.2.2.1 hv.2.2.2.2.2.2 hf_8.2.2.2 (by omega) (by omega)
        refine lv_goto (tgt := 7) hx hb dX11_wayDown_27 (by decide) ?_
        exact ih_7 mi_6 ma_7 x_9 x_10 _ _ hP hD hS hI hFI hFA hE ⟨⟨(hf_8.2.1 10 (by decide)).trans hv.1.1, (hf_8.2.1 11 (by decide)).trans hv.1.2⟩, by omega, by omega, by omega, by omega, hst.1, hst.2⟩ _ (lv_sub hl [2, 1, 0] rfl) (by omega)
  -- from the entry
  rw [hQP] at J_7
  have hE := hRES
  unfold x_wayDown at hE
  refine lv_iconst (v := 0) hx hb dX11_wayDown_0 (by decide) ?_
  refine lv_istore_n (lv' := [(1, .int 0), (0, .ref h0)]) hx hb dX11_wayDown_1 rfl hl (by decide) rfl (fun ls hl => ?_)
  refine lv_aload_n hx hb dX11_wayDown_2 rfl (lv_at hl 1 rfl) ?_
  refine va_get (D := D) (ci := 11) (v := .int (mi 10)) (C := RX11) (T := TX11) (N := 74) hx hb ha inlX11 hown hK hP 0 mw_at0 rfl 10 (by decide) (ha _ kf_X11_242) (fun _ h9 => h9) rfl dX11_wayDown_3 ?_
  refine lv_topi (fun x_11 ex_11 => ?_)
  have hE := bd_at ex_11 hE
  have u_x_11 := congrArg Int32.toInt ex_11
  have r_x_11 := MB_wayFirst hI
  rw [← ex_11] at r_x_11
  refine lv_istore_n (lv' := [(2, .int x_11), (1, .int 0), (0, .ref h0)]) hx hb dX11_wayDown_6 rfl hl (by decide) rfl (fun ls hl => ?_)
  exact J_7 ((mi0 11).toInt - x_11.toInt + 1).toNat mi ma (0 : Int32) x_11 _ _ hP hD hS hI hFI hFA (by rw [hmi0]; exact hE) ⟨⟨by rw [hmi0], by rw [hmi0]⟩, by omega, by omega, by omega, by omega, fun j hj => by omega, fun j _ => by rw [hma0]⟩ _ (lv_sub hl [2, 1, 0] rfl) (by omega)

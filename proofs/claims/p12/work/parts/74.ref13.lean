theorem mu_at {α : Type} (f : Nat → α) (i : Nat) (v : α) : va_up f i v i = v := if_pos rfl
theorem mu_eq {ma ma2 : Nat → Nat → Int32} {k : Nat} {v : Nat → Int32} (h : va_up ma k v = ma2) : ma2 k = v := by
  rw [← h]; exact mu_at _ _ _
theorem mu_ne {ma ma2 : Nat → Nat → Int32} {k j : Nat} {v : Nat → Int32} (h : va_up ma k v = ma2) (hk : ¬ j = k) : ma2 j = ma j := by
  rw [← h]; exact if_neg hk
theorem wd_due {ph : Nat} {t f e f2 e2 m : Int32} {at_ at2 : Nat → Int32} (h : DW ph t f e m at_) (h0 : 0 ≤ f.toInt) (hf : f2.toInt = 0) (he : e2.toInt = e.toInt - f.toInt) (ha : ∀ j : Nat, (j : Int) < e2.toInt → at2 j = at_ (f.toNatClampNeg + j)) : DW ph t f2 e2 m at2 := by
  obtain ⟨a, b, c⟩ := h
  have q := cl_toInt h0
  refine ⟨by omega, fun k h1 h2 => ?_, fun hz j k h1 h2 h3 => ?_⟩
  · rw [ha k h2]
    have := b (f.toNatClampNeg + k) (by omega) (by omega)
    omega
  · rw [ha j (by omega), ha k h3]
    exact c hz (f.toNatClampNeg + j) (f.toNatClampNeg + k) (by omega) (by omega) (by omega)
theorem da_due {ph : Nat} {cl : Int} {t wf we f e f2 e2 m : Int32} {at_ at2 ow ch : Nat → Int32} (h : DA ph cl t wf we f e m at_ ow ch) (h0 : 0 ≤ f.toInt) (hf : f2.toInt = 0) (he : e2.toInt = e.toInt - f.toInt) (ha : ∀ j : Nat, (j : Int) < e2.toInt → at2 j = at_ (f.toNatClampNeg + j)) : DA ph cl t wf we f2 e2 m at2 ow ch := by
  obtain ⟨a, b, c⟩ := h
  have q := cl_toInt h0
  refine ⟨by omega, fun k h1 h2 => ?_, fun hz j k h1 h2 h3 => ?_⟩
  · rw [ha k h2]
    have := b (f.toNatClampNeg + k) (by omega) (by omega)
    omega
  · rw [ha j (by omega), ha k h3]
    exact c hz (f.toNatClampNeg + j) (f.toNatClampNeg + k) (by omega) (by omega) (by omega)
theorem da_wd {ph : Nat} {cl : Int} {t wf we wf2 we2 f e m : Int32} {at_ ow ch : Nat → Int32} (h : DA ph cl t wf we f e m at_ ow ch) (hw : we2.toInt - wf2.toInt = we.toInt - wf.toInt) : DA ph cl t wf2 we2 f e m at_ ow ch := by
  obtain ⟨a, b, c⟩ := h
  refine ⟨a, fun k h1 h2 => ?_, c⟩
  have := b k h1 h2
  omega
theorem dw_keep {ph : Nat} {mi mi2 : Nat → Int32} {ma ma2 : Nat → Nat → Int32} (h : DW ph (mi 4) (mi 10) (mi 11) (mi 12) (ma 13)) (e4 : mi2 4 = mi 4) (e10 : mi2 10 = mi 10) (e11 : mi2 11 = mi 11) (e12 : mi2 12 = mi 12) (e13 : ma2 13 = ma 13) : DW ph (mi2 4) (mi2 10) (mi2 11) (mi2 12) (ma2 13) := by
  rw [e4, e10, e11, e12, e13]
  exact h
theorem da_keep {ph : Nat} {cl : Int} {mi mi2 : Nat → Int32} {ma ma2 : Nat → Nat → Int32} (h : DA ph cl (mi 4) (mi 10) (mi 11) (mi 17) (mi 18) (mi 19) (ma 20) (ma 40) (ma 41)) (e4 : mi2 4 = mi 4) (e10 : mi2 10 = mi 10) (e11 : mi2 11 = mi 11) (e17 : mi2 17 = mi 17) (e18 : mi2 18 = mi 18) (e19 : mi2 19 = mi 19) (e20 : ma2 20 = ma 20) (e40 : ma2 40 = ma 40) (e41 : ma2 41 = ma 41) : DA ph cl (mi2 4) (mi2 10) (mi2 11) (mi2 17) (mi2 18) (mi2 19) (ma2 20) (ma2 40) (ma2 41) := by
  rw [e4, e10, e11, e17, e18, e19, e20, e40, e41]
  exact h
theorem MB_fl {mi : Nat → Int32} {ma : Nat → Nat → Int32} (h : MB mi ma) (h1 : ¬ (mi 6).toInt = 0) : 1 ≤ (mi 32).toInt := by
  have a := MB_flows h
  rcases Int.lt_or_le 0 (mi 32).toInt with q | q
  · omega
  · have b := (MB_none h (by omega)).1
    omega
theorem MB_flw {mi : Nat → Int32} {ma : Nat → Nat → Int32} (h : MB mi ma) (h1 : ¬ (mi 10).toInt = (mi 11).toInt) : 1 ≤ (mi 32).toInt := by
  have a := MB_flows h
  rcases Int.lt_or_le 0 (mi 32).toInt with q | q
  · omega
  · have b := (MB_none h (by omega)).2.1
    omega
theorem MB_fla {mi : Nat → Int32} {ma : Nat → Nat → Int32} (h : MB mi ma) (h1 : ¬ (mi 17).toInt = (mi 18).toInt) : 1 ≤ (mi 32).toInt := by
  have a := MB_flows h
  rcases Int.lt_or_le 0 (mi 32).toInt with q | q
  · omega
  · have b := (MB_none h (by omega)).2.2
    omega

set_option maxRecDepth 100000 in
noncomputable def x_goes_168 : Nat → (Nat → Int32) → (Nat → Nat → Int32) → Int32 → (Option XT)
  | 0, mi, ma, _ => none
  | fu + 1, mi, ma, i1 => bd (mi 6) (fun v1 => (if v1 ≤ i1 then bd (mi 4) (fun v2 => bd (mi 0) (fun v3 => bd (v2 + v3) (fun v4 => bd (upd mi 5 v4) (fun m5 => some (m5, ma, 0))))) else bd (i1 + (1 : Int32)) (fun v6 => bd (ma 7 v6.toNatClampNeg) (fun v7 => bd (va_up ma 7 (upd (ma 7) i1.toNatClampNeg v7)) (fun a8 => bd (i1 + (1 : Int32)) (fun v9 => bd (a8 8 v9.toNatClampNeg) (fun v10 => bd (va_up a8 8 (upd (a8 8) i1.toNatClampNeg v10)) (fun a11 => bd (i1 + (1 : Int32)) (fun v12 => bd (a11 9 v12.toNatClampNeg) (fun v13 => bd (va_up a11 9 (upd (a11 9) i1.toNatClampNeg (vp_nar .boolean v13))) (fun a14 => bd (i1 + 1) (fun v15 => x_goes_168 fu mi a14 v15))))))))))))
set_option maxRecDepth 100000 in
noncomputable def x_goes_83 (mi : Nat → Int32) (ma : Nat → Nat → Int32) : (Option XT) := bd (mi 11) (fun v16 => bd (mi 4) (fun v17 => bd (mi 2) (fun v18 => bd (v17 + v18) (fun v19 => bd (va_up ma 13 (upd (ma 13) v16.toNatClampNeg v19)) (fun a20 => bd (mi 11) (fun v21 => bd (a20 7 (0 : Int32).toNatClampNeg) (fun v22 => bd (va_up a20 14 (upd (a20 14) v21.toNatClampNeg v22)) (fun a23 => bd (mi 11) (fun v24 => bd (a23 8 (0 : Int32).toNatClampNeg) (fun v25 => bd (va_up a23 15 (upd (a23 15) v24.toNatClampNeg v25)) (fun a26 => bd (mi 11) (fun v27 => bd (a26 9 (0 : Int32).toNatClampNeg) (fun v28 => bd (va_up a26 16 (upd (a26 16) v27.toNatClampNeg (vp_nar .boolean v28))) (fun a29 => bd (mi 11) (fun v30 => bd (v30 + (1 : Int32)) (fun v31 => bd (upd mi 11 v31) (fun m32 => bd (m32 6) (fun v33 => bd (v33 - (1 : Int32)) (fun v34 => bd (upd m32 6 v34) (fun m35 => x_goes_168 102 m35 a29 (0 : Int32)))))))))))))))))))))
set_option maxRecDepth 100000 in
noncomputable def x_goes_33 (mi : Nat → Int32) (ma : Nat → Nat → Int32) : (Option XT) := bd (mi 10) (fun v36 => bd (mi 11) (fun v37 => (if v37 ≤ v36 then bd (upd mi 12 (0 : Int32)) (fun m38 => x_goes_83 m38 ma) else bd (mi 12) (fun v39 => (if v39 = (0 : Int32) then bd (mi 11) (fun v41 => bd (v41 - (1 : Int32)) (fun v42 => bd (ma 13 v42.toNatClampNeg) (fun v43 => bd (mi 4) (fun v44 => bd (mi 2) (fun v45 => bd (v44 + v45) (fun v46 => (if v43 ≤ v46 then bd (upd mi 12 (0 : Int32)) (fun m47 => x_goes_83 m47 ma) else bd (upd mi 12 (1 : Int32)) (fun m48 => x_goes_83 m48 ma)))))))) else bd (upd mi 12 (1 : Int32)) (fun m40 => x_goes_83 m40 ma))))))
set_option maxRecDepth 100000 in
noncomputable def x_goes (mi : Nat → Int32) (ma : Nat → Nat → Int32) : (Option XT) := ax (MB mi ma ∧ ∃ cl : Int, DW 0 (mi 4) (mi 10) (mi 11) (mi 12) (ma 13) ∧ DA 0 cl (mi 4) (mi 10) (mi 11) (mi 17) (mi 18) (mi 19) (ma 20) (ma 40) (ma 41)) (bd (mi 6) (fun v49 => (if v49 = (0 : Int32) then some (mi, ma, 0) else bd (mi 5) (fun v50 => bd (mi 4) (fun v51 => (if v50 = v51 then bd (mi 11) (fun v52 => (if v52 = (4096 : Int32) then bc (x_wayDown mi ma) (fun m53 a54 _ => x_goes_33 m53 a54) else x_goes_33 mi ma)) else some (mi, ma, 0)))))))
set_option maxHeartbeats 4000000 in
set_option maxRecDepth 100000 in
theorem m_goes (l : Launch) (D : va_G) (cI cJ cZ cO : ClassId) (sz : Nat) (h0 : Nat) (mq : Nat → Nat) (mi : Nat → Int32) (ma : Nat → Nat → Int32) (ph : Nat) (cl : Int) (hI : MB mi ma) (hU : (DW 0 (mi 4) (mi 10) (mi 11) (mi 12) (ma 13) ∧ DA 0 cl (mi 4) (mi 10) (mi 11) (mi 17) (mi 18) (mi 19) (ma 20) (ma 40) (ma 41))) : Met l yX11_goes (wa yX11_goes cX11_goes 2 none) ({ frames := 2, cells := 0, slots := 0, locals := 44 }) (va_Pc [.ref h0] (pw_s D cI cJ cZ cO sz (mw cI cZ h0 mq mi ma))) (va_Qv (fun (_ : Unit) => True) (fun (_ : Unit) (t : State) => ∃ (mi2 : Nat → Int32) (ma2 : Nat → Nat → Int32), ((MB mi2 ma2 ∧ (∀ k, k ∉ ([10, 11, 12, 6, 5] : List Nat) → mi2 k = mi k) ∧ (∀ k, k ∉ ([13, 14, 15, 16, 7, 8, 9] : List Nat) → ma2 k = ma k) ∧ (DW 1 (mi2 4) (mi2 10) (mi2 11) (mi2 12) (ma2 13) ∧ DA 1 cl (mi2 4) (mi2 10) (mi2 11) (mi2 17) (mi2 18) (mi2 19) (ma2 20) (ma2 40) (ma2 41))) ∧ ∃ rr : Int32, (x_goes mi ma) = some (mi2, ma2, rr)) ∧ pw_t D cI cJ cZ cO (va_A (mw cI cZ h0 mq mi ma) sz) (mw cI cZ h0 mq mi2 ma2) t) (va_A (mw cI cZ h0 mq mi ma) sz)) 0 0 (va_A (mw cI cZ h0 mq mi ma) sz) := by
  refine Met.ofW (cc := cX11_goes) (maxL := 2) (ret := none) (by decide) rfl ?_
  intro p e s m args below meth c s₁ B hml hv
  obtain ⟨rfl, hsz, hP, hK, hD0, hN⟩ := hv
  have hx := B.exec
  have hb := B.bytes
  have hr := B.returns
  have hts := atoms_spec (ws := (wa yX11_goes cX11_goes 2 none)) B.pre
  have ha : ∀ w ∈ wsL_law, w.before _ s = true := fun w h => hts w (List.mem_cons_of_mem _ h)
  have hown : s.vm.findClass RX11 = some m.cls := findClass_of_methodNamed B.named
  have hlocks := B.notSynchronized
  subst hsz
  have hD := hD0.self (sz := s.heap.size)
  generalize hAe : va_A (mw cI cZ h0 mq mi ma) s.heap.size = A at hD ⊢
  have hA : ∀ q : Nat, s.heap.size ≤ q → A q := fun q h => by rw [← hAe]; exact Or.inr h
  have hS : va_S A s.heap s.heap [] := va_S.rf
  have hP : va_P D vwCl (mw cI cZ h0 mq mi ma) s.heap := hP
  have hl := lv_entry ([.ref h0]) (n := 2) (Nat.le_of_ble_eq_true rfl)
  rw [lg_entry_eq]
  generalize (lg_sl ([.ref h0]) ++ List.replicate (2 - (lg_sl ([.ref h0])).length) Slot.unset).toArray = ls at hl ⊢
  have hl : lv_has ls 2 [(0, .ref h0)] := hl
  have kc_m1 := tk_m1
  have kc_0 := tk_0
  have kc_1 := tk_1
  have kc_4096 := tk_4096
  obtain ⟨mi0, hmi0⟩ : ∃ y, y = mi := ⟨_, rfl⟩
  obtain ⟨ma0, hma0⟩ : ∃ y, y = ma := ⟨_, rfl⟩
  have hFI : ∀ k, k ∉ ([10, 11, 12, 6, 5] : List Nat) → mi k = mi0 k := fun k _ => by rw [hmi0]
  have hFA : ∀ k, k ∉ ([13, 14, 15, 16, 7, 8, 9] : List Nat) → ma k = ma0 k := fun k _ => by rw [hma0]
  obtain ⟨QP, hQP⟩ : ∃ y : State → Prop, y = (MQ below (va_Qv (fun (_ : Unit) => True) (fun (_ : Unit) (t : State) => ∃ (mi2 : Nat → Int32) (ma2 : Nat → Nat → Int32), ((MB mi2 ma2 ∧ (∀ k, k ∉ ([10, 11, 12, 6, 5] : List Nat) → mi2 k = mi k) ∧ (∀ k, k ∉ ([13, 14, 15, 16, 7, 8, 9] : List Nat) → ma2 k = ma k) ∧ (DW 1 (mi2 4) (mi2 10) (mi2 11) (mi2 12) (ma2 13) ∧ DA 1 cl (mi2 4) (mi2 10) (mi2 11) (mi2 17) (mi2 18) (mi2 19) (ma2 20) (ma2 40) (ma2 41))) ∧ ∃ rr : Int32, (x_goes mi ma) = some (mi2, ma2, rr)) ∧ pw_t D cI cJ cZ cO A (mw cI cZ h0 mq mi2 ma2) t) A) #[(.ref h0 : Value)] s 0 0 A) := ⟨_, rfl⟩
  obtain ⟨RES, hRES⟩ : ∃ y, y = (x_goes mi ma) := ⟨_, rfl⟩
  have J_168 : ∀ (n_168 : Nat), ∀ (mi : Nat → Int32) (ma : Nat → Nat → Int32) (i1 : Int32) (H : Heap) (locs : List Loc), va_P D vwCl (mw cI cZ h0 mq mi ma) H → va_D A (mw cI cZ h0 mq mi ma) → va_S A s.heap H locs → MB mi ma → (∀ k, k ∉ ([10, 11, 12, 6, 5] : List Nat) → mi k = mi0 k) → (∀ k, k ∉ ([13, 14, 15, 16, 7, 8, 9] : List Nat) → ma k = ma0 k) → RES = x_goes_168 n_168 mi ma i1 → ((DW 1 (mi 4) (mi 10) (mi 11) (mi 12) (ma 13) ∧ DA 1 cl (mi 4) (mi 10) (mi 11) (mi 17) (mi 18) (mi 19) (ma 20) (ma 40) (ma 41)) ∧ 0 ≤ i1.toInt) → ∀ (ls : Array Slot), lv_has ls 2 [(0, .ref h0), (1, .int i1)] → ((101 - i1.toInt).toNat) < n_168 → W p l e ({ frames := 2, cells := 0, slots := 0, locals := 44 }) s m #[(.ref h0 : Value)] below meth c H locs 0 0 QP (F0 m 168 ls []) := by
    intro n_168
    induction n_168 with
    | zero => intros; exact absurd ‹_ < 0› (Nat.not_lt_zero _)
    | succ n_168 ih_168 =>
      intro mi ma i1 H locs hP hD hS hI hFI hFA hE hv ls hl hm
      rw [x_goes_168] at hE
      refine lv_iload_n hx hb dX11_goes_168 rfl (lv_at hl 1 rfl) ?_
      refine lv_aload_n hx hb dX11_goes_169 rfl (lv_at hl 0 rfl) ?_
      refine va_get (D := D) (ci := 11) (v := .int (mi 6)) (C := RX11) (T := TX11) (N := 74) hx hb ha inlX11 hown hK hP 0 mw_at0 rfl 6 (by decide) (ha _ kf_X11_230) (fun _ h9 => h9) rfl dX11_goes_170 ?_
      refine lv_topi (fun x_1 ex_1 => ?_)
      have hE := bd_at ex_1 hE
      have u_x_1 := congrArg Int32.toInt ex_1
      have r_x_1 := MB_linked hI
      rw [← ex_1] at r_x_1
      refine lv_icmp_ge (tgt := 224) hx hb dX11_goes_173 (by decide) (fun c_2 => ?_) (fun c_2 => ?_)
      · have t_c_2 := Int32.le_iff_toInt_le.mp c_2
        have hE := hE.trans (if_pos c_2)
        refine lv_aload_n hx hb dX11_goes_224 rfl (lv_at hl 0 rfl) ?_
        refine lv_aload_n hx hb dX11_goes_225 rfl (lv_at hl 0 rfl) ?_
        refine va_get (D := D) (ci := 11) (v := .int (mi 4)) (C := RX11) (T := TX11) (N := 74) hx hb ha inlX11 hown hK hP 0 mw_at0 rfl 4 (by decide) (ha _ kf_X11_207) (fun _ h9 => h9) rfl dX11_goes_226 ?_
        refine lv_topi (fun x_3 ex_3 => ?_)
        have hE := bd_at ex_3 hE
        have u_x_3 := congrArg Int32.toInt ex_3
        have r_x_3 := MB_tick hI
        rw [← ex_3] at r_x_3
        refine lv_aload_n hx hb dX11_goes_229 rfl (lv_at hl 0 rfl) ?_
        refine va_get (D := D) (ci := 11) (v := .int (mi 0)) (C := RX11) (T := TX11) (N := 74) hx hb ha inlX11 hown hK hP 0 mw_at0 rfl 0 (by decide) (ha _ kf_X11_7) (fun _ h9 => h9) rfl dX11_goes_230 ?_
        refine lv_topi (fun x_4 ex_4 => ?_)
        have hE := bd_at ex_4 hE
        have u_x_4 := congrArg Int32.toInt ex_4
        refine lv_iadd hx hb dX11_goes_233 ?_
        refine lv_topi (fun x_5 ex_5 => ?_)
        have hE := bd_at ex_5 hE
        try have t_x_5 := ti_add ex_5 (by omega) (by omega)
        refine va_put (D := D) (ci := 11) (v := .int x_5) (ty := .int) (C := RX11) (T := TX11) (N := 74) hx hb ha inlX11 tyX11 tyX11_ok nmX11 hown hK hP hD hS 0 mw_at0 rfl 5 (by decide) (ha _ kf_X11_233) (fun _ h9 => h9) rfl (by decide +kernel) rfl rfl (Nat.le_of_ble_eq_true rfl) dX11_goes_234 (fun H locs hP hD hS => ?_)
        have hP : va_P D vwCl (mw cI cZ h0 mq (upd mi 5 x_5) ma) H := mwP_5 hP
        have hD : va_D A (mw cI cZ h0 mq (upd mi 5 x_5) ma) := mwD_5 hD
        generalize hmi_6 : upd mi 5 x_5 = mi_6 at hP hD
        have hI : MB mi_6 ma := by rw [← hmi_6]; exact MBi_free hI
        have hFI : ∀ k, k ∉ ([10, 11, 12, 6, 5] : List Nat) → mi_6 k = mi0 k := fun k hk => by rw [← hmi_6]; exact (if_neg (fun e => hk (by rw [e]; decide))).trans (hFI k hk)
        have hE := bs_at hmi_6 hE
        rw [hQP]
        exact W.vret hx hb hr (fun t ht hW => ⟨⟨(), rfl, trivial, ⟨mi_6, ma, ⟨⟨hI, fun k hk => (hFI k hk).trans (by rw [hmi0]), fun k hk => (hFA k hk).trans (by rw [hma0]), due_keep hv.1 ((show mi_6 4 = mi 4 from (congrFun hmi_6 4).symm)) ((show mi_6 10 = mi 10 from (congrFun hmi_6 10).symm)) ((show mi_6 11 = mi 11 from (congrFun hmi_6 11).symm)) ((show mi_6 12 = mi 12 from (congrFun hmi_6 12).symm)) ((show mi_6 17 = mi 17 from (congrFun hmi_6 17).symm)) ((show mi_6 18 = mi 18 from (congrFun hmi_6 18).symm)) ((show mi_6 19 = mi 19 from (congrFun hmi_6 19).symm)) (rfl) (rfl) (rfl) (rfl)⟩, _, hRES.symm.trans hE⟩, by rw [ht]; exact hP, va_K.moved hW.alike hK, hD⟩⟩, hS.F ht⟩) hS.2.2 dX11_goes_237
      · have t_c_2 := Int32.lt_iff_toInt_lt.mp (Int32.not_le.mp c_2)
        have hE := hE.trans (if_neg c_2)
        refine lv_aload_n hx hb dX11_goes_176 rfl (lv_at hl 0 rfl) ?_
        refine va_get (D := D) (ci := 11) (v := .ref (mq 7)) (C := RX11) (T := TX11) (N := 74) hx hb ha inlX11 hown hK hP 0 mw_at0 rfl 7 (by decide) (ha _ kf_X11_22) (fun _ h9 => h9) rfl dX11_goes_177 ?_
        refine lv_iload_n hx hb dX11_goes_180 rfl (lv_at hl 1 rfl) ?_
        refine lv_aload_n hx hb dX11_goes_181 rfl (lv_at hl 0 rfl) ?_
        refine va_get (D := D) (ci := 11) (v := .ref (mq 7)) (C := RX11) (T := TX11) (N := 74) hx hb ha inlX11 hown hK hP 0 mw_at0 rfl 7 (by decide) (ha _ kf_X11_22) (fun _ h9 => h9) rfl dX11_goes_182 ?_
        refine lv_iload_n hx hb dX11_goes_185 rfl (lv_at hl 1 rfl) ?_
        refine lv_iconst (v := 1) hx hb dX11_goes_186 (by decide) ?_
        refine lv_iadd hx hb dX11_goes_187 ?_
        refine lv_topi (fun x_7 ex_7 => ?_)
        have hE := bd_at ex_7 hE
        try have t_x_7 := ti_add ex_7 (by omega) (by omega)
        have hin_8 : vp_in x_7 102 := vpi_of (by omega) (by omega)
        refine va_iald hx hb hK hP 1 0 mw_at7 rfl hin_8 dX11_goes_188 ?_
        refine lv_topi (fun x_9 ex_9 => ?_)
        have hE := bd_at ex_9 hE
        have u_x_9 := congrArg Int32.toInt ex_9
        have r_x_9 := fw_ld (MB_linkFlow hI) hin_8 ex_9
        have hin_10 : vp_in i1 102 := vpi_of (by omega) (by omega)
        refine va_iast hx hb hK hP hD hS 1 0 mw_at7 rfl hin_10 dX11_goes_189 (fun H locs hP hD hS => ?_)
        have hP : va_P D vwCl (mw cI cZ h0 mq mi (va_up ma 7 (upd (ma 7) i1.toNatClampNeg x_9))) H := mwP_7 hP
        have hD : va_D A (mw cI cZ h0 mq mi (va_up ma 7 (upd (ma 7) i1.toNatClampNeg x_9))) := mwD_7 hD
        generalize hma_11 : va_up ma 7 (upd (ma 7) i1.toNatClampNeg x_9) = ma_11 at hP hD
        have hI : MB mi ma_11 := by rw [← hma_11]; exact MBa_linkFlow hI (by omega) r_x_9.2
        have hFA : ∀ k, k ∉ ([13, 14, 15, 16, 7, 8, 9] : List Nat) → ma_11 k = ma0 k := fun k hk => by rw [← hma_11]; exact (va_up_ne _ _ (fun e => hk (by rw [e]; decide))).trans (hFA k hk)
        have hE := bs_at hma_11 hE
        refine lv_aload_n hx hb dX11_goes_190 rfl (lv_at hl 0 rfl) ?_
        refine va_get (D := D) (ci := 11) (v := .ref (mq 8)) (C := RX11) (T := TX11) (N := 74) hx hb ha inlX11 hown hK hP 0 mw_at0 rfl 8 (by decide) (ha _ kf_X11_26) (fun _ h9 => h9) rfl dX11_goes_191 ?_
        refine lv_iload_n hx hb dX11_goes_194 rfl (lv_at hl 1 rfl) ?_
        refine lv_aload_n hx hb dX11_goes_195 rfl (lv_at hl 0 rfl) ?_
        refine va_get (D := D) (ci := 11) (v := .ref (mq 8)) (C := RX11) (T := TX11) (N := 74) hx hb ha inlX11 hown hK hP 0 mw_at0 rfl 8 (by decide) (ha _ kf_X11_26) (fun _ h9 => h9) rfl dX11_goes_196 ?_
        refine lv_iload_n hx hb dX11_goes_199 rfl (lv_at hl 1 rfl) ?_
        refine lv_iconst (v := 1) hx hb dX11_goes_200 (by decide) ?_
        refine lv_iadd hx hb dX11_goes_201 ?_
        refine lv_topi (fun x_12 ex_12 => ?_)
        have hE := bd_at ex_12 hE
        try have t_x_12 := ti_add ex_12 (by omega) (by omega)
        have hin_13 : vp_in x_12 102 := vpi_of (by omega) (by omega)
        refine va_iald hx hb hK hP 2 0 mw_at8 rfl hin_13 dX11_goes_202 ?_
        refine lv_topi (fun x_14 ex_14 => ?_)
        have hE := bd_at ex_14 hE
        have u_x_14 := congrArg Int32.toInt ex_14
        have r_x_14 := rg_ld (MB_linkSegment hI) hin_13 ex_14
        have hin_15 : vp_in i1 102 := vpi_of (by omega) (by omega)
        refine va_iast hx hb hK hP hD hS 2 0 mw_at8 rfl hin_15 dX11_goes_203 (fun H locs hP hD hS => ?_)
        have hP : va_P D vwCl (mw cI cZ h0 mq mi (va_up ma_11 8 (upd (ma_11 8) i1.toNatClampNeg x_14))) H := mwP_8 hP
        have hD : va_D A (mw cI cZ h0 mq mi (va_up ma_11 8 (upd (ma_11 8) i1.toNatClampNeg x_14))) := mwD_8 hD
        generalize hma_16 : va_up ma_11 8 (upd (ma_11 8) i1.toNatClampNeg x_14) = ma_16 at hP hD
        have hI : MB mi ma_16 := by rw [← hma_16]; exact MBa_linkSegment hI (by omega) (by omega)
        have hFA : ∀ k, k ∉ ([13, 14, 15, 16, 7, 8, 9] : List Nat) → ma_16 k = ma0 k := fun k hk => by rw [← hma_16]; exact (va_up_ne _ _ (fun e => hk (by rw [e]; decide))).trans (hFA k hk)
        have hE := bs_at hma_16 hE
        refine lv_aload_n hx hb dX11_goes_204 rfl (lv_at hl 0 rfl) ?_
        refine va_get (D := D) (ci := 11) (v := .ref (mq 9)) (C := RX11) (T := TX11) (N := 74) hx hb ha inlX11 hown hK hP 0 mw_at0 rfl 9 (by decide) (ha _ kf_X11_29) (fun _ h9 => h9) rfl dX11_goes_205 ?_
        refine lv_iload_n hx hb dX11_goes_208 rfl (lv_at hl 1 rfl) ?_
        refine lv_aload_n hx hb dX11_goes_209 rfl (lv_at hl 0 rfl) ?_
        refine va_get (D := D) (ci := 11) (v := .ref (mq 9)) (C := RX11) (T := TX11) (N := 74) hx hb ha inlX11 hown hK hP 0 mw_at0 rfl 9 (by decide) (ha _ kf_X11_29) (fun _ h9 => h9) rfl dX11_goes_210 ?_
        refine lv_iload_n hx hb dX11_goes_213 rfl (lv_at hl 1 rfl) ?_
        refine lv_iconst (v := 1) hx hb dX11_goes_214 (by decide) ?_
        refine lv_iadd hx hb dX11_goes_215 ?_
        refine lv_topi (fun x_17 ex_17 => ?_)
        have hE := bd_at ex_17 hE
        try have t_x_17 := ti_add ex_17 (by omega) (by omega)
        have hin_18 : vp_in x_17 102 := vpi_of (by omega) (by omega)
        refine va_zald hx hb hK hP 3 2 mw_at9 rfl hin_18 dX11_goes_216 ?_
        refine lv_topi (fun x_19 ex_19 => ?_)
        have hE := bd_at ex_19 hE
        have u_x_19 := congrArg Int32.toInt ex_19
        have hin_20 : vp_in i1 102 := vpi_of (by omega) (by omega)
        refine va_zast hx hb hK hP hD hS 3 2 mw_at9 rfl hin_20 dX11_goes_217 (fun H locs hP hD hS => ?_)
        have hP : va_P D vwCl (mw cI cZ h0 mq mi (va_up ma_16 9 (upd (ma_16 9) i1.toNatClampNeg (vp_nar .boolean x_19)))) H := mwP_9 hP
        have hD : va_D A (mw cI cZ h0 mq mi (va_up ma_16 9 (upd (ma_16 9) i1.toNatClampNeg (vp_nar .boolean x_19)))) := mwD_9 hD
        generalize hma_21 : va_up ma_16 9 (upd (ma_16 9) i1.toNatClampNeg (vp_nar .boolean x_19)) = ma_21 at hP hD
        have hI : MB mi ma_21 := by rw [← hma_21]; exact MBa_linkProbe hI
        have hFA : ∀ k, k ∉ ([13, 14, 15, 16, 7, 8, 9] : List Nat) → ma_21 k = ma0 k := fun k hk => by rw [← hma_21]; exact (va_up_ne _ _ (fun e => hk (by rw [e]; decide))).trans (hFA k hk)
        have hE := bs_at hma_21 hE
        obtain ⟨x_22, ex_22⟩ : ∃ y : Int32, y = i1 + 1 := ⟨_, rfl⟩
        have hE := bd_at ex_22 hE
        refine lv_iinc (v := x_22) (lv' := [(1, .int x_22), (0, .ref h0)]) hx hb dX11_goes_218 hl (k := 1) rfl (by rw [ex_22]; rfl) (by decide) rfl (fun ls hl => ?_)
        try have t_x_22 := ti_add ex_22 (by omega) (by omega)
        refine lv_goto (tgt := 168) hx hb dX11_goes_221 (by decide) ?_
        exact ih_168 mi ma_21 x_22 _ _ hP hD hS hI hFI hFA hE ⟨due_keep hv.1 (rfl) (rfl) (rfl) (rfl) (rfl) (rfl) (rfl) (((mu_ne (k := 9) (j := 13) hma_21 (by decide))).trans (((mu_ne (k := 8) (j := 13) hma_16 (by decide))).trans ((mu_ne (k := 7) (j := 13) hma_11 (by decide))))) (((mu_ne (k := 9) (j := 20) hma_21 (by decide))).trans (((mu_ne (k := 8) (j := 20) hma_16 (by decide))).trans ((mu_ne (k := 7) (j := 20) hma_11 (by decide))))) (((mu_ne (k := 9) (j := 40) hma_21 (by decide))).trans (((mu_ne (k := 8) (j := 40) hma_16 (by decide))).trans ((mu_ne (k := 7) (j := 40) hma_11 (by decide))))) (((mu_ne (k := 9) (j := 41) hma_21 (by decide))).trans (((mu_ne (k := 8) (j := 41) hma_16 (by decide))).trans ((mu_ne (k := 7) (j := 41) hma_11 (by decide))))), by omega⟩ _ (lv_sub hl [1, 0] rfl) (by omega)
  have J_83 : ∀ (mi : Nat → Int32) (ma : Nat → Nat → Int32) (H : Heap) (locs : List Loc), va_P D vwCl (mw cI cZ h0 mq mi ma) H → va_D A (mw cI cZ h0 mq mi ma) → va_S A s.heap H locs → MB mi ma → (∀ k, k ∉ ([10, 11, 12, 6, 5] : List Nat) → mi k = mi0 k) → (∀ k, k ∉ ([13, 14, 15, 16, 7, 8, 9] : List Nat) → ma k = ma0 k) → RES = x_goes_83 mi ma → ((∃ m0 : Int32, DW 0 (mi 4) (mi 10) (mi 11) m0 (ma 13) ∧ (mi 12 = 0 → (mi 10).toInt < (mi 11).toInt → m0 = 0 ∧ ∀ k : Nat, (k : Int) = (mi 11).toInt - 1 → (ma 13 k).toInt ≤ (mi 4).toInt + (mi 2).toInt)) ∧ DA 0 cl (mi 4) (mi 10) (mi 11) (mi 17) (mi 18) (mi 19) (ma 20) (ma 40) (ma 41) ∧ (mi 11).toInt < 4096 ∧ 1 ≤ (mi 32).toInt ∧ 1 ≤ (mi 6).toInt) → ∀ (ls : Array Slot), lv_has ls 2 [(0, .ref h0)] → W p l e ({ frames := 2, cells := 0, slots := 0, locals := 44 }) s m #[(.ref h0 : Value)] below meth c H locs 0 0 QP (F0 m 83 ls []) := by
    intro mi ma H locs hP hD hS hI hFI hFA hE hv ls hl
    rw [x_goes_83] at hE
    obtain ⟨⟨m0, hw0, hw1⟩, hda, hv1, hv2, hv3⟩ := hv
    have hI0 := hI
    refine lv_aload_n hx hb dX11_goes_83 rfl (lv_at hl 0 rfl) ?_
    refine va_get (D := D) (ci := 11) (v := .ref (mq 13)) (C := RX11) (T := TX11) (N := 74) hx hb ha inlX11 hown hK hP 0 mw_at0 rfl 13 (by decide) (ha _ kf_X11_33) (fun _ h9 => h9) rfl dX11_goes_84 ?_
    refine lv_aload_n hx hb dX11_goes_87 rfl (lv_at hl 0 rfl) ?_
    refine va_get (D := D) (ci := 11) (v := .int (mi 11)) (C := RX11) (T := TX11) (N := 74) hx hb ha inlX11 hown hK hP 0 mw_at0 rfl 11 (by decide) (ha _ kf_X11_236) (fun _ h9 => h9) rfl dX11_goes_88 ?_
    refine lv_topi (fun x_23 ex_23 => ?_)
    have hE := bd_at ex_23 hE
    have u_x_23 := congrArg Int32.toInt ex_23
    have r_x_23 := MB_wayEnd hI
    rw [← ex_23] at r_x_23
    refine lv_aload_n hx hb dX11_goes_91 rfl (lv_at hl 0 rfl) ?_
    refine va_get (D := D) (ci := 11) (v := .int (mi 4)) (C := RX11) (T := TX11) (N := 74) hx hb ha inlX11 hown hK hP 0 mw_at0 rfl 4 (by decide) (ha _ kf_X11_207) (fun _ h9 => h9) rfl dX11_goes_92 ?_
    refine lv_topi (fun x_24 ex_24 => ?_)
    have hE := bd_at ex_24 hE
    have u_x_24 := congrArg Int32.toInt ex_24
    have r_x_24 := MB_tick hI
    rw [← ex_24] at r_x_24
    refine lv_aload_n hx hb dX11_goes_95 rfl (lv_at hl 0 rfl) ?_
    refine va_get (D := D) (ci := 11) (v := .int (mi 2)) (C := RX11) (T := TX11) (N := 74) hx hb ha inlX11 hown hK hP 0 mw_at0 rfl 2 (by decide) (ha _ kf_X11_16) (fun _ h9 => h9) rfl dX11_goes_96 ?_
    refine lv_topi (fun x_25 ex_25 => ?_)
    have hE := bd_at ex_25 hE
    have u_x_25 := congrArg Int32.toInt ex_25
    have r_x_25 := MB_forward hI
    rw [← ex_25] at r_x_25
    refine lv_iadd hx hb dX11_goes_99 ?_
    refine lv_topi (fun x_26 ex_26 => ?_)
    have hE := bd_at ex_26 hE
    try have t_x_26 := ti_add ex_26 (by omega) (by omega)
    have hin_27 : vp_in x_23 4096 := vpi_of (by omega) (by omega)
    refine va_iast hx hb hK hP hD hS 4 0 mw_at13 rfl hin_27 dX11_goes_100 (fun H locs hP hD hS => ?_)
    have hP : va_P D vwCl (mw cI cZ h0 mq mi (va_up ma 13 (upd (ma 13) x_23.toNatClampNeg x_26))) H := mwP_13 hP
    have hD : va_D A (mw cI cZ h0 mq mi (va_up ma 13 (upd (ma 13) x_23.toNatClampNeg x_26))) := mwD_13 hD
    generalize hma_28 : va_up ma 13 (upd (ma 13) x_23.toNatClampNeg x_26) = ma_28 at hP hD
    have hI : MB mi ma_28 := by rw [← hma_28]; exact MBa_wayAt hI
    have hFA : ∀ k, k ∉ ([13, 14, 15, 16, 7, 8, 9] : List Nat) → ma_28 k = ma0 k := fun k hk => by rw [← hma_28]; exact (va_up_ne _ _ (fun e => hk (by rw [e]; decide))).trans (hFA k hk)
    have hE := bs_at hma_28 hE
    refine lv_aload_n hx hb dX11_goes_101 rfl (lv_at hl 0 rfl) ?_
    refine va_get (D := D) (ci := 11) (v := .ref (mq 14)) (C := RX11) (T := TX11) (N := 74) hx hb ha inlX11 hown hK hP 0 mw_at0 rfl 14 (by decide) (ha _ kf_X11_36) (fun _ h9 => h9) rfl dX11_goes_102 ?_
    refine lv_aload_n hx hb dX11_goes_105 rfl (lv_at hl 0 rfl) ?_
    refine va_get (D := D) (ci := 11) (v := .int (mi 11)) (C := RX11) (T := TX11) (N := 74) hx hb ha inlX11 hown hK hP 0 mw_at0 rfl 11 (by decide) (ha _ kf_X11_236) (fun _ h9 => h9) rfl dX11_goes_106 ?_
    refine lv_topi (fun x_29 ex_29 => ?_)
    have hE := bd_at ex_29 hE
    have u_x_29 := congrArg Int32.toInt ex_29
    have r_x_29 := MB_wayEnd hI
    rw [← ex_29] at r_x_29
    refine lv_aload_n hx hb dX11_goes_109 rfl (lv_at hl 0 rfl) ?_
    refine va_get (D := D) (ci := 11) (v := .ref (mq 7)) (C := RX11) (T := TX11) (N := 74) hx hb ha inlX11 hown hK hP 0 mw_at0 rfl 7 (by decide) (ha _ kf_X11_22) (fun _ h9 => h9) rfl dX11_goes_110 ?_
    refine lv_iconst (v := 0) hx hb dX11_goes_113 (by decide) ?_
    have hin_30 : vp_in (0 : Int32) 102 := vpi_of (by omega) (by omega)
    refine va_iald hx hb hK hP 1 0 mw_at7 rfl hin_30 dX11_goes_114 ?_
    refine lv_topi (fun x_31 ex_31 => ?_)
    have hE := bd_at ex_31 hE
    have u_x_31 := congrArg Int32.toInt ex_31
    have r_x_31 := fw_ld (MB_linkFlow hI) hin_30 ex_31
    have hin_32 : vp_in x_29 4096 := vpi_of (by omega) (by omega)
    refine va_iast hx hb hK hP hD hS 5 0 mw_at14 rfl hin_32 dX11_goes_115 (fun H locs hP hD hS => ?_)
    have hP : va_P D vwCl (mw cI cZ h0 mq mi (va_up ma_28 14 (upd (ma_28 14) x_29.toNatClampNeg x_31))) H := mwP_14 hP
    have hD : va_D A (mw cI cZ h0 mq mi (va_up ma_28 14 (upd (ma_28 14) x_29.toNatClampNeg x_31))) := mwD_14 hD
    generalize hma_33 : va_up ma_28 14 (upd (ma_28 14) x_29.toNatClampNeg x_31) = ma_33 at hP hD
    have hI : MB mi ma_33 := by rw [← hma_33]; exact MBa_wayFlow hI (by omega) r_x_31.2
    have hFA : ∀ k, k ∉ ([13, 14, 15, 16, 7, 8, 9] : List Nat) → ma_33 k = ma0 k := fun k hk => by rw [← hma_33]; exact (va_up_ne _ _ (fun e => hk (by rw [e]; decide))).trans (hFA k hk)
    have hE := bs_at hma_33 hE
    refine lv_aload_n hx hb dX11_goes_116 rfl (lv_at hl 0 rfl) ?_
    refine va_get (D := D) (ci := 11) (v := .ref (mq 15)) (C := RX11) (T := TX11) (N := 74) hx hb ha inlX11 hown hK hP 0 mw_at0 rfl 15 (by decide) (ha _ kf_X11_39) (fun _ h9 => h9) rfl dX11_goes_117 ?_
    refine lv_aload_n hx hb dX11_goes_120 rfl (lv_at hl 0 rfl) ?_
    refine va_get (D := D) (ci := 11) (v := .int (mi 11)) (C := RX11) (T := TX11) (N := 74) hx hb ha inlX11 hown hK hP 0 mw_at0 rfl 11 (by decide) (ha _ kf_X11_236) (fun _ h9 => h9) rfl dX11_goes_121 ?_
    refine lv_topi (fun x_34 ex_34 => ?_)
    have hE := bd_at ex_34 hE
    have u_x_34 := congrArg Int32.toInt ex_34
    have r_x_34 := MB_wayEnd hI
    rw [← ex_34] at r_x_34
    refine lv_aload_n hx hb dX11_goes_124 rfl (lv_at hl 0 rfl) ?_
    refine va_get (D := D) (ci := 11) (v := .ref (mq 8)) (C := RX11) (T := TX11) (N := 74) hx hb ha inlX11 hown hK hP 0 mw_at0 rfl 8 (by decide) (ha _ kf_X11_26) (fun _ h9 => h9) rfl dX11_goes_125 ?_
    refine lv_iconst (v := 0) hx hb dX11_goes_128 (by decide) ?_
    have hin_35 : vp_in (0 : Int32) 102 := vpi_of (by omega) (by omega)
    refine va_iald hx hb hK hP 2 0 mw_at8 rfl hin_35 dX11_goes_129 ?_
    refine lv_topi (fun x_36 ex_36 => ?_)
    have hE := bd_at ex_36 hE
    have u_x_36 := congrArg Int32.toInt ex_36
    have r_x_36 := rg_ld (MB_linkSegment hI) hin_35 ex_36
    have hin_37 : vp_in x_34 4096 := vpi_of (by omega) (by omega)
    refine va_iast hx hb hK hP hD hS 6 0 mw_at15 rfl hin_37 dX11_goes_130 (fun H locs hP hD hS => ?_)
    have hP : va_P D vwCl (mw cI cZ h0 mq mi (va_up ma_33 15 (upd (ma_33 15) x_34.toNatClampNeg x_36))) H := mwP_15 hP
    have hD : va_D A (mw cI cZ h0 mq mi (va_up ma_33 15 (upd (ma_33 15) x_34.toNatClampNeg x_36))) := mwD_15 hD
    generalize hma_38 : va_up ma_33 15 (upd (ma_33 15) x_34.toNatClampNeg x_36) = ma_38 at hP hD
    have hI : MB mi ma_38 := by rw [← hma_38]; exact MBa_waySegment hI (by omega) (by omega)
    have hFA : ∀ k, k ∉ ([13, 14, 15, 16, 7, 8, 9] : List Nat) → ma_38 k = ma0 k := fun k hk => by rw [← hma_38]; exact (va_up_ne _ _ (fun e => hk (by rw [e]; decide))).trans (hFA k hk)
    have hE := bs_at hma_38 hE
    refine lv_aload_n hx hb dX11_goes_131 rfl (lv_at hl 0 rfl) ?_
    refine va_get (D := D) (ci := 11) (v := .ref (mq 16)) (C := RX11) (T := TX11) (N := 74) hx hb ha inlX11 hown hK hP 0 mw_at0 rfl 16 (by decide) (ha _ kf_X11_42) (fun _ h9 => h9) rfl dX11_goes_132 ?_
    refine lv_aload_n hx hb dX11_goes_135 rfl (lv_at hl 0 rfl) ?_
    refine va_get (D := D) (ci := 11) (v := .int (mi 11)) (C := RX11) (T := TX11) (N := 74) hx hb ha inlX11 hown hK hP 0 mw_at0 rfl 11 (by decide) (ha _ kf_X11_236) (fun _ h9 => h9) rfl dX11_goes_136 ?_
    refine lv_topi (fun x_39 ex_39 => ?_)
    have hE := bd_at ex_39 hE
    have u_x_39 := congrArg Int32.toInt ex_39
    have r_x_39 := MB_wayEnd hI
    rw [← ex_39] at r_x_39
    refine lv_aload_n hx hb dX11_goes_139 rfl (lv_at hl 0 rfl) ?_
    refine va_get (D := D) (ci := 11) (v := .ref (mq 9)) (C := RX11) (T := TX11) (N := 74) hx hb ha inlX11 hown hK hP 0 mw_at0 rfl 9 (by decide) (ha _ kf_X11_29) (fun _ h9 => h9) rfl dX11_goes_140 ?_
    refine lv_iconst (v := 0) hx hb dX11_goes_143 (by decide) ?_
    have hin_40 : vp_in (0 : Int32) 102 := vpi_of (by omega) (by omega)
    refine va_zald hx hb hK hP 3 2 mw_at9 rfl hin_40 dX11_goes_144 ?_
    refine lv_topi (fun x_41 ex_41 => ?_)
    have hE := bd_at ex_41 hE
    have u_x_41 := congrArg Int32.toInt ex_41
    have hin_42 : vp_in x_39 4096 := vpi_of (by omega) (by omega)
    refine va_zast hx hb hK hP hD hS 7 2 mw_at16 rfl hin_42 dX11_goes_145 (fun H locs hP hD hS => ?_)
    have hP : va_P D vwCl (mw cI cZ h0 mq mi (va_up ma_38 16 (upd (ma_38 16) x_39.toNatClampNeg (vp_nar .boolean x_41)))) H := mwP_16 hP
    have hD : va_D A (mw cI cZ h0 mq mi (va_up ma_38 16 (upd (ma_38 16) x_39.toNatClampNeg (vp_nar .boolean x_41)))) := mwD_16 hD
    generalize hma_43 : va_up ma_38 16 (upd (ma_38 16) x_39.toNatClampNeg (vp_nar .boolean x_41)) = ma_43 at hP hD
    have hI : MB mi ma_43 := by rw [← hma_43]; exact MBa_wayProbe hI
    have hFA : ∀ k, k ∉ ([13, 14, 15, 16, 7, 8, 9] : List Nat) → ma_43 k = ma0 k := fun k hk => by rw [← hma_43]; exact (va_up_ne _ _ (fun e => hk (by rw [e]; decide))).trans (hFA k hk)
    have hE := bs_at hma_43 hE
    refine lv_aload_n hx hb dX11_goes_146 rfl (lv_at hl 0 rfl) ?_
    refine lv_dup hx hb dX11_goes_147 rfl ?_
    refine va_get (D := D) (ci := 11) (v := .int (mi 11)) (C := RX11) (T := TX11) (N := 74) hx hb ha inlX11 hown hK hP 0 mw_at0 rfl 11 (by decide) (ha _ kf_X11_236) (fun _ h9 => h9) rfl dX11_goes_148 ?_
    refine lv_topi (fun x_44 ex_44 => ?_)
    have hE := bd_at ex_44 hE
    have u_x_44 := congrArg Int32.toInt ex_44
    have r_x_44 := MB_wayEnd hI
    rw [← ex_44] at r_x_44
    refine lv_iconst (v := 1) hx hb dX11_goes_151 (by decide) ?_
    refine lv_iadd hx hb dX11_goes_152 ?_
    refine lv_topi (fun x_45 ex_45 => ?_)
    have hE := bd_at ex_45 hE
    try have t_x_45 := ti_add ex_45 (by omega) (by omega)
    refine va_put (D := D) (ci := 11) (v := .int x_45) (ty := .int) (C := RX11) (T := TX11) (N := 74) hx hb ha inlX11 tyX11 tyX11_ok nmX11 hown hK hP hD hS 0 mw_at0 rfl 11 (by decide) (ha _ kf_X11_236) (fun _ h9 => h9) rfl (by decide +kernel) rfl rfl (Nat.le_of_ble_eq_true rfl) dX11_goes_153 (fun H locs hP hD hS => ?_)
    have hP : va_P D vwCl (mw cI cZ h0 mq (upd mi 11 x_45) ma_43) H := mwP_11 hP
    have hD : va_D A (mw cI cZ h0 mq (upd mi 11 x_45) ma_43) := mwD_11 hD
    generalize hmi_46 : upd mi 11 x_45 = mi_46 at hP hD
    have hI : MB mi_46 ma_43 := by rw [← hmi_46]; exact MBi_we hI (by omega) (by omega) (by omega)
    have hFI : ∀ k, k ∉ ([10, 11, 12, 6, 5] : List Nat) → mi_46 k = mi0 k := fun k hk => by rw [← hmi_46]; exact (if_neg (fun e => hk (by rw [e]; decide))).trans (hFI k hk)
    have hE := bs_at hmi_46 hE
    refine lv_aload_n hx hb dX11_goes_156 rfl (lv_at hl 0 rfl) ?_
    refine lv_dup hx hb dX11_goes_157 rfl ?_
    refine va_get (D := D) (ci := 11) (v := .int (mi_46 6)) (C := RX11) (T := TX11) (N := 74) hx hb ha inlX11 hown hK hP 0 mw_at0 rfl 6 (by decide) (ha _ kf_X11_230) (fun _ h9 => h9) rfl dX11_goes_158 ?_
    refine lv_topi (fun x_47 ex_47 => ?_)
    have hE := bd_at ex_47 hE
    have u_x_47 := congrArg Int32.toInt ex_47
    have r_x_47 := MB_linked hI
    rw [← ex_47] at r_x_47
    refine lv_iconst (v := 1) hx hb dX11_goes_161 (by decide) ?_
    refine lv_isub hx hb dX11_goes_162 ?_
    refine lv_topi (fun x_48 ex_48 => ?_)
    have hE := bd_at ex_48 hE
    try have t_x_48 := ti_sub ex_48 (by omega) (by omega)
    refine va_put (D := D) (ci := 11) (v := .int x_48) (ty := .int) (C := RX11) (T := TX11) (N := 74) hx hb ha inlX11 tyX11 tyX11_ok nmX11 hown hK hP hD hS 0 mw_at0 rfl 6 (by decide) (ha _ kf_X11_230) (fun _ h9 => h9) rfl (by decide +kernel) rfl rfl (Nat.le_of_ble_eq_true rfl) dX11_goes_163 (fun H locs hP hD hS => ?_)
    have hP : va_P D vwCl (mw cI cZ h0 mq (upd mi_46 6 x_48) ma_43) H := mwP_6 hP
    have hD : va_D A (mw cI cZ h0 mq (upd mi_46 6 x_48) ma_43) := mwD_6 hD
    generalize hmi_49 : upd mi_46 6 x_48 = mi_49 at hP hD
    have hI : MB mi_49 ma_43 := by rw [← hmi_49]; exact MBi_linked hI (by have w6 : (mi_46 6).toInt = (mi 6).toInt := congrArg Int32.toInt ((show mi_46 6 = mi 6 from (congrFun hmi_46 6).symm)); omega) (by have w6 : (mi_46 6).toInt = (mi 6).toInt := congrArg Int32.toInt ((show mi_46 6 = mi 6 from (congrFun hmi_46 6).symm)); omega) (fun q => by have w9 : (mi_46 32).toInt = (mi 32).toInt := congrArg Int32.toInt ((show mi_46 32 = mi 32 from (congrFun hmi_46 32).symm)); omega)
    have hFI : ∀ k, k ∉ ([10, 11, 12, 6, 5] : List Nat) → mi_49 k = mi0 k := fun k hk => by rw [← hmi_49]; exact (if_neg (fun e => hk (by rw [e]; decide))).trans (hFI k hk)
    have hE := bs_at hmi_49 hE
    refine lv_iconst (v := 0) hx hb dX11_goes_166 (by decide) ?_
    refine lv_istore_n (lv' := [(1, .int 0), (0, .ref h0)]) hx hb dX11_goes_167 rfl hl (by decide) rfl (fun ls hl => ?_)
    have g4 : mi_49 4 = (mi 4) := ((show mi_49 4 = mi_46 4 from (congrFun hmi_49 4).symm)).trans ((show mi_46 4 = mi 4 from (congrFun hmi_46 4).symm))
    have g10 : mi_49 10 = (mi 10) := ((show mi_49 10 = mi_46 10 from (congrFun hmi_49 10).symm)).trans ((show mi_46 10 = mi 10 from (congrFun hmi_46 10).symm))
    have g11 : mi_49 11 = x_45 := ((show mi_49 11 = mi_46 11 from (congrFun hmi_49 11).symm)).trans (((congrFun hmi_46 11).symm))
    have g12 : mi_49 12 = (mi 12) := ((show mi_49 12 = mi_46 12 from (congrFun hmi_49 12).symm)).trans ((show mi_46 12 = mi 12 from (congrFun hmi_46 12).symm))
    have g17 : mi_49 17 = (mi 17) := ((show mi_49 17 = mi_46 17 from (congrFun hmi_49 17).symm)).trans ((show mi_46 17 = mi 17 from (congrFun hmi_46 17).symm))
    have g18 : mi_49 18 = (mi 18) := ((show mi_49 18 = mi_46 18 from (congrFun hmi_49 18).symm)).trans ((show mi_46 18 = mi 18 from (congrFun hmi_46 18).symm))
    have g19 : mi_49 19 = (mi 19) := ((show mi_49 19 = mi_46 19 from (congrFun hmi_49 19).symm)).trans ((show mi_46 19 = mi 19 from (congrFun hmi_46 19).symm))
    have a13 : ma_43 13 = upd (ma 13) x_23.toNatClampNeg x_26 := ((mu_ne (k := 16) (j := 13) hma_43 (by decide))).trans (((mu_ne (k := 15) (j := 13) hma_38 (by decide))).trans (((mu_ne (k := 14) (j := 13) hma_33 (by decide))).trans ((mu_eq (k := 13) hma_28))))
    have a20 : ma_43 20 = ma 20 := ((mu_ne (k := 16) (j := 20) hma_43 (by decide))).trans (((mu_ne (k := 15) (j := 20) hma_38 (by decide))).trans (((mu_ne (k := 14) (j := 20) hma_33 (by decide))).trans ((mu_ne (k := 13) (j := 20) hma_28 (by decide)))))
    have a40 : ma_43 40 = ma 40 := ((mu_ne (k := 16) (j := 40) hma_43 (by decide))).trans (((mu_ne (k := 15) (j := 40) hma_38 (by decide))).trans (((mu_ne (k := 14) (j := 40) hma_33 (by decide))).trans ((mu_ne (k := 13) (j := 40) hma_28 (by decide)))))
    have a41 : ma_43 41 = ma 41 := ((mu_ne (k := 16) (j := 41) hma_43 (by decide))).trans (((mu_ne (k := 15) (j := 41) hma_38 (by decide))).trans (((mu_ne (k := 14) (j := 41) hma_33 (by decide))).trans ((mu_ne (k := 13) (j := 41) hma_28 (by decide)))))
    have fw9 := MB_forward hI0
    have wf9 := MB_wayFirst hI0
    have hd2 : (DW 1 (mi_49 4) (mi_49 10) (mi_49 11) (mi_49 12) (ma_43 13) ∧ DA 1 cl (mi_49 4) (mi_49 10) (mi_49 11) (mi_49 17) (mi_49 18) (mi_49 19) (ma_43 20) (ma_43 40) (ma_43 41)) := by
      rw [g4, g10, g11, g12, g17, g18, g19, a13, a20, a40, a41, ex_23]
      exact ⟨dw_add hw0 wf9.1 fw9 (by omega) (by omega) (fun a b => ⟨(hw1 a b).1, fun k hk => by have q9 := (hw1 a b).2 k hk; omega⟩), da_ph hda (by omega)⟩
    exact J_168 102 mi_49 ma_43 (0 : Int32) _ _ hP hD hS hI hFI hFA hE ⟨hd2, by omega⟩ _ (lv_sub hl [1, 0] rfl) (by omega)
  have J_33 : ∀ (mi : Nat → Int32) (ma : Nat → Nat → Int32) (H : Heap) (locs : List Loc), va_P D vwCl (mw cI cZ h0 mq mi ma) H → va_D A (mw cI cZ h0 mq mi ma) → va_S A s.heap H locs → MB mi ma → (∀ k, k ∉ ([10, 11, 12, 6, 5] : List Nat) → mi k = mi0 k) → (∀ k, k ∉ ([13, 14, 15, 16, 7, 8, 9] : List Nat) → ma k = ma0 k) → RES = x_goes_33 mi ma → ((DW 0 (mi 4) (mi 10) (mi 11) (mi 12) (ma 13) ∧ DA 0 cl (mi 4) (mi 10) (mi 11) (mi 17) (mi 18) (mi 19) (ma 20) (ma 40) (ma 41)) ∧ (mi 11).toInt < 4096 ∧ 1 ≤ (mi 32).toInt ∧ 1 ≤ (mi 6).toInt) → ∀ (ls : Array Slot), lv_has ls 2 [(0, .ref h0)] → W p l e ({ frames := 2, cells := 0, slots := 0, locals := 44 }) s m #[(.ref h0 : Value)] below meth c H locs 0 0 QP (F0 m 33 ls []) := by
    intro mi ma H locs hP hD hS hI hFI hFA hE hv ls hl
    rw [x_goes_33] at hE
    refine lv_aload_n hx hb dX11_goes_33 rfl (lv_at hl 0 rfl) ?_
    refine lv_aload_n hx hb dX11_goes_34 rfl (lv_at hl 0 rfl) ?_
    refine va_get (D := D) (ci := 11) (v := .int (mi 10)) (C := RX11) (T := TX11) (N := 74) hx hb ha inlX11 hown hK hP 0 mw_at0 rfl 10 (by decide) (ha _ kf_X11_242) (fun _ h9 => h9) rfl dX11_goes_35 ?_
    refine lv_topi (fun x_50 ex_50 => ?_)
    have hE := bd_at ex_50 hE
    have u_x_50 := congrArg Int32.toInt ex_50
    have r_x_50 := MB_wayFirst hI
    rw [← ex_50] at r_x_50
    refine lv_aload_n hx hb dX11_goes_38 rfl (lv_at hl 0 rfl) ?_
    refine va_get (D := D) (ci := 11) (v := .int (mi 11)) (C := RX11) (T := TX11) (N := 74) hx hb ha inlX11 hown hK hP 0 mw_at0 rfl 11 (by decide) (ha _ kf_X11_236) (fun _ h9 => h9) rfl dX11_goes_39 ?_
    refine lv_topi (fun x_51 ex_51 => ?_)
    have hE := bd_at ex_51 hE
    have u_x_51 := congrArg Int32.toInt ex_51
    have r_x_51 := MB_wayEnd hI
    rw [← ex_51] at r_x_51
    refine lv_icmp_ge (tgt := 79) hx hb dX11_goes_42 (by decide) (fun c_52 => ?_) (fun c_52 => ?_)
    · have t_c_52 := Int32.le_iff_toInt_le.mp c_52
      have hE := hE.trans (if_pos c_52)
      refine lv_iconst (v := 0) hx hb dX11_goes_79 (by decide) ?_
      refine va_put (D := D) (ci := 11) (v := .int 0) (ty := .boolean) (C := RX11) (T := TX11) (N := 74) hx hb ha inlX11 tyX11 tyX11_ok nmX11 hown hK hP hD hS 0 mw_at0 rfl 12 (by decide) (ha _ kf_X11_245) (fun _ h9 => h9) rfl (by decide +kernel) rfl rfl (Nat.le_of_ble_eq_true rfl) dX11_goes_80 (fun H locs hP hD hS => ?_)
      have hP : va_P D vwCl (mw cI cZ h0 mq (upd mi 12 (0 : Int32)) ma) H := mwP_12 hP
      have hD : va_D A (mw cI cZ h0 mq (upd mi 12 (0 : Int32)) ma) := mwD_12 hD
      generalize hmi_53 : upd mi 12 (0 : Int32) = mi_53 at hP hD
      have hI : MB mi_53 ma := by rw [← hmi_53]; exact MBi_wayMixed hI
      have hFI : ∀ k, k ∉ ([10, 11, 12, 6, 5] : List Nat) → mi_53 k = mi0 k := fun k hk => by rw [← hmi_53]; exact (if_neg (fun e => hk (by rw [e]; decide))).trans (hFI k hk)
      have hE := bs_at hmi_53 hE
      exact J_83 mi_53 ma  _ _ hP hD hS hI hFI hFA hE (by rw [← hmi_53]; exact ⟨⟨mi 12, hv.1.1, fun _ h2 => by have h3 : (mi 10).toInt < (mi 11).toInt := h2; exfalso; omega⟩, hv.1.2, hv.2⟩) _ (lv_sub hl [0] rfl)
    · have t_c_52 := Int32.lt_iff_toInt_lt.mp (Int32.not_le.mp c_52)
      have hE := hE.trans (if_neg c_52)
      refine lv_aload_n hx hb dX11_goes_45 rfl (lv_at hl 0 rfl) ?_
      refine va_get (D := D) (ci := 11) (v := .int (mi 12)) (C := RX11) (T := TX11) (N := 74) hx hb ha inlX11 hown hK hP 0 mw_at0 rfl 12 (by decide) (ha _ kf_X11_245) (fun _ h9 => h9) rfl dX11_goes_46 ?_
      refine lv_topi (fun x_54 ex_54 => ?_)
      have hE := bd_at ex_54 hE
      have u_x_54 := congrArg Int32.toInt ex_54
      refine lv_if_ne (tgt := 75) hx hb dX11_goes_49 (by decide) (fun c_55 => ?_) (fun c_55 => ?_)
      · have t_c_55 := mt Int32.toInt_inj.mp c_55
        have hE := hE.trans (if_neg c_55)
        refine lv_iconst (v := 1) hx hb dX11_goes_75 (by decide) ?_
        refine lv_goto (tgt := 80) hx hb dX11_goes_76 (by decide) ?_
        refine va_put (D := D) (ci := 11) (v := .int 1) (ty := .boolean) (C := RX11) (T := TX11) (N := 74) hx hb ha inlX11 tyX11 tyX11_ok nmX11 hown hK hP hD hS 0 mw_at0 rfl 12 (by decide) (ha _ kf_X11_245) (fun _ h9 => h9) rfl (by decide +kernel) rfl rfl (Nat.le_of_ble_eq_true rfl) dX11_goes_80 (fun H locs hP hD hS => ?_)
        have hP : va_P D vwCl (mw cI cZ h0 mq (upd mi 12 (1 : Int32)) ma) H := mwP_12 hP
        have hD : va_D A (mw cI cZ h0 mq (upd mi 12 (1 : Int32)) ma) := mwD_12 hD
        generalize hmi_56 : upd mi 12 (1 : Int32) = mi_56 at hP hD
        have hI : MB mi_56 ma := by rw [← hmi_56]; exact MBi_wayMixed hI
        have hFI : ∀ k, k ∉ ([10, 11, 12, 6, 5] : List Nat) → mi_56 k = mi0 k := fun k hk => by rw [← hmi_56]; exact (if_neg (fun e => hk (by rw [e]; decide))).trans (hFI k hk)
        have hE := bs_at hmi_56 hE
        exact J_83 mi_56 ma  _ _ hP hD hS hI hFI hFA hE (by rw [← hmi_56]; exact ⟨⟨mi 12, hv.1.1, fun h1 _ => absurd (show (1 : Int32) = 0 from h1) (by decide)⟩, hv.1.2, hv.2⟩) _ (lv_sub hl [0] rfl)
      · have t_c_55 := congrArg Int32.toInt c_55
        have hE := hE.trans (if_pos c_55)
        refine lv_aload_n hx hb dX11_goes_52 rfl (lv_at hl 0 rfl) ?_
        refine va_get (D := D) (ci := 11) (v := .ref (mq 13)) (C := RX11) (T := TX11) (N := 74) hx hb ha inlX11 hown hK hP 0 mw_at0 rfl 13 (by decide) (ha _ kf_X11_33) (fun _ h9 => h9) rfl dX11_goes_53 ?_
        refine lv_aload_n hx hb dX11_goes_56 rfl (lv_at hl 0 rfl) ?_
        refine va_get (D := D) (ci := 11) (v := .int (mi 11)) (C := RX11) (T := TX11) (N := 74) hx hb ha inlX11 hown hK hP 0 mw_at0 rfl 11 (by decide) (ha _ kf_X11_236) (fun _ h9 => h9) rfl dX11_goes_57 ?_
        refine lv_topi (fun x_57 ex_57 => ?_)
        have hE := bd_at ex_57 hE
        have u_x_57 := congrArg Int32.toInt ex_57
        have r_x_57 := MB_wayEnd hI
        rw [← ex_57] at r_x_57
        refine lv_iconst (v := 1) hx hb dX11_goes_60 (by decide) ?_
        refine lv_isub hx hb dX11_goes_61 ?_
        refine lv_topi (fun x_58 ex_58 => ?_)
        have hE := bd_at ex_58 hE
        try have t_x_58 := ti_sub ex_58 (by omega) (by omega)
        have hin_59 : vp_in x_58 4096 := vpi_of (by omega) (by omega)
        refine va_iald hx hb hK hP 4 0 mw_at13 rfl hin_59 dX11_goes_62 ?_
        refine lv_topi (fun x_60 ex_60 => ?_)
        have hE := bd_at ex_60 hE
        have u_x_60 := congrArg Int32.toInt ex_60
        refine lv_aload_n hx hb dX11_goes_63 rfl (lv_at hl 0 rfl) ?_
        refine va_get (D := D) (ci := 11) (v := .int (mi 4)) (C := RX11) (T := TX11) (N := 74) hx hb ha inlX11 hown hK hP 0 mw_at0 rfl 4 (by decide) (ha _ kf_X11_207) (fun _ h9 => h9) rfl dX11_goes_64 ?_
        refine lv_topi (fun x_61 ex_61 => ?_)
        have hE := bd_at ex_61 hE
        have u_x_61 := congrArg Int32.toInt ex_61
        have r_x_61 := MB_tick hI
        rw [← ex_61] at r_x_61
        refine lv_aload_n hx hb dX11_goes_67 rfl (lv_at hl 0 rfl) ?_
        refine va_get (D := D) (ci := 11) (v := .int (mi 2)) (C := RX11) (T := TX11) (N := 74) hx hb ha inlX11 hown hK hP 0 mw_at0 rfl 2 (by decide) (ha _ kf_X11_16) (fun _ h9 => h9) rfl dX11_goes_68 ?_
        refine lv_topi (fun x_62 ex_62 => ?_)
        have hE := bd_at ex_62 hE
        have u_x_62 := congrArg Int32.toInt ex_62
        have r_x_62 := MB_forward hI
        rw [← ex_62] at r_x_62
        refine lv_iadd hx hb dX11_goes_71 ?_
        refine lv_topi (fun x_63 ex_63 => ?_)
        have hE := bd_at ex_63 hE
        try have t_x_63 := ti_add ex_63 (by omega) (by omega)
        refine lv_icmp_le (tgt := 79) hx hb dX11_goes_72 (by decide) (fun c_64 => ?_) (fun c_64 => ?_)
        · have t_c_64 := Int32.le_iff_toInt_le.mp c_64
          have hE := hE.trans (if_pos c_64)
          refine lv_iconst (v := 0) hx hb dX11_goes_79 (by decide) ?_
          refine va_put (D := D) (ci := 11) (v := .int 0) (ty := .boolean) (C := RX11) (T := TX11) (N := 74) hx hb ha inlX11 tyX11 tyX11_ok nmX11 hown hK hP hD hS 0 mw_at0 rfl 12 (by decide) (ha _ kf_X11_245) (fun _ h9 => h9) rfl (by decide +kernel) rfl rfl (Nat.le_of_ble_eq_true rfl) dX11_goes_80 (fun H locs hP hD hS => ?_)
          have hP : va_P D vwCl (mw cI cZ h0 mq (upd mi 12 (0 : Int32)) ma) H := mwP_12 hP
          have hD : va_D A (mw cI cZ h0 mq (upd mi 12 (0 : Int32)) ma) := mwD_12 hD
          generalize hmi_65 : upd mi 12 (0 : Int32) = mi_65 at hP hD
          have hI : MB mi_65 ma := by rw [← hmi_65]; exact MBi_wayMixed hI
          have hFI : ∀ k, k ∉ ([10, 11, 12, 6, 5] : List Nat) → mi_65 k = mi0 k := fun k hk => by rw [← hmi_65]; exact (if_neg (fun e => hk (by rw [e]; decide))).trans (hFI k hk)
          have hE := bs_at hmi_65 hE
          exact J_83 mi_65 ma  _ _ hP hD hS hI hFI hFA hE (by rw [← hmi_65]; exact ⟨⟨mi 12, hv.1.1, fun _ _ => ⟨ex_54.symm.trans c_55, fun k hk => by have hk2 : (k : Int) = (mi 11).toInt - 1 := hk; have hk3 := cl_toInt (i := x_58) (by omega); show (ma 13 k).toInt ≤ (mi 4).toInt + (mi 2).toInt; rw [show k = x_58.toNatClampNeg by omega, ← ex_60]; omega⟩⟩, hv.1.2, hv.2⟩) _ (lv_sub hl [0] rfl)
        · have t_c_64 := Int32.lt_iff_toInt_lt.mp (Int32.not_le.mp c_64)
          have hE := hE.trans (if_neg c_64)
          refine lv_iconst (v := 1) hx hb dX11_goes_75 (by decide) ?_
          refine lv_goto (tgt := 80) hx hb dX11_goes_76 (by decide) ?_
          refine va_put (D := D) (ci := 11) (v := .int 1) (ty := .boolean) (C := RX11) (T := TX11) (N := 74) hx hb ha inlX11 tyX11 tyX11_ok nmX11 hown hK hP hD hS 0 mw_at0 rfl 12 (by decide) (ha _ kf_X11_245) (fun _ h9 => h9) rfl (by decide +kernel) rfl rfl (Nat.le_of_ble_eq_true rfl) dX11_goes_80 (fun H locs hP hD hS => ?_)
          have hP : va_P D vwCl (mw cI cZ h0 mq (upd mi 12 (1 : Int32)) ma) H := mwP_12 hP
          have hD : va_D A (mw cI cZ h0 mq (upd mi 12 (1 : Int32)) ma) := mwD_12 hD
          generalize hmi_66 : upd mi 12 (1 : Int32) = mi_66 at hP hD
          have hI : MB mi_66 ma := by rw [← hmi_66]; exact MBi_wayMixed hI
          have hFI : ∀ k, k ∉ ([10, 11, 12, 6, 5] : List Nat) → mi_66 k = mi0 k := fun k hk => by rw [← hmi_66]; exact (if_neg (fun e => hk (by rw [e]; decide))).trans (hFI k hk)
          have hE := bs_at hmi_66 hE
          exact J_83 mi_66 ma  _ _ hP hD hS hI hFI hFA hE (by rw [← hmi_66]; exact ⟨⟨mi 12, hv.1.1, fun h1 _ => absurd (show (1 : Int32) = 0 from h1) (by decide)⟩, hv.1.2, hv.2⟩) _ (lv_sub hl [0] rfl)
  -- from the entry
  rw [hQP] at J_33
  rw [hQP] at J_83
  rw [hQP] at J_168
  have hE := hRES
  unfold x_goes at hE
  have hE := ax_at (⟨hI, _, hU⟩) hE
  refine lv_aload_n hx hb dX11_goes_0 rfl (lv_at hl 0 rfl) ?_
  refine va_get (D := D) (ci := 11) (v := .int (mi 6)) (C := RX11) (T := TX11) (N := 74) hx hb ha inlX11 hown hK hP 0 mw_at0 rfl 6 (by decide) (ha _ kf_X11_230) (fun _ h9 => h9) rfl dX11_goes_1 ?_
  refine lv_topi (fun x_67 ex_67 => ?_)
  have hE := bd_at ex_67 hE
  have u_x_67 := congrArg Int32.toInt ex_67
  have r_x_67 := MB_linked hI
  rw [← ex_67] at r_x_67
  refine lv_if_eq (tgt := 18) hx hb dX11_goes_4 (by decide) (fun c_68 => ?_) (fun c_68 => ?_)
  · have t_c_68 := congrArg Int32.toInt c_68
    have hE := hE.trans (if_pos c_68)
    exact W.vret hx hb hr (fun t ht hW => ⟨⟨(), rfl, trivial, ⟨mi, ma, ⟨⟨hI, fun k hk => (hFI k hk).trans (by rw [hmi0]), fun k hk => (hFA k hk).trans (by rw [hma0]), ⟨dw_ph hU.1, da_ph0 hU.2⟩⟩, _, hRES.symm.trans hE⟩, by rw [ht]; exact hP, va_K.moved hW.alike hK, hD⟩⟩, hS.F ht⟩) hS.2.2 dX11_goes_18
  · have t_c_68 := mt Int32.toInt_inj.mp c_68
    have hE := hE.trans (if_neg c_68)
    refine lv_aload_n hx hb dX11_goes_7 rfl (lv_at hl 0 rfl) ?_
    refine va_get (D := D) (ci := 11) (v := .int (mi 5)) (C := RX11) (T := TX11) (N := 74) hx hb ha inlX11 hown hK hP 0 mw_at0 rfl 5 (by decide) (ha _ kf_X11_233) (fun _ h9 => h9) rfl dX11_goes_8 ?_
    refine lv_topi (fun x_69 ex_69 => ?_)
    have hE := bd_at ex_69 hE
    have u_x_69 := congrArg Int32.toInt ex_69
    refine lv_aload_n hx hb dX11_goes_11 rfl (lv_at hl 0 rfl) ?_
    refine va_get (D := D) (ci := 11) (v := .int (mi 4)) (C := RX11) (T := TX11) (N := 74) hx hb ha inlX11 hown hK hP 0 mw_at0 rfl 4 (by decide) (ha _ kf_X11_207) (fun _ h9 => h9) rfl dX11_goes_12 ?_
    refine lv_topi (fun x_70 ex_70 => ?_)
    have hE := bd_at ex_70 hE
    have u_x_70 := congrArg Int32.toInt ex_70
    have r_x_70 := MB_tick hI
    rw [← ex_70] at r_x_70
    refine lv_icmp_eq (tgt := 19) hx hb dX11_goes_15 (by decide) (fun c_71 => ?_) (fun c_71 => ?_)
    · have t_c_71 := congrArg Int32.toInt c_71
      have hE := hE.trans (if_pos c_71)
      refine lv_aload_n hx hb dX11_goes_19 rfl (lv_at hl 0 rfl) ?_
      refine va_get (D := D) (ci := 11) (v := .int (mi 11)) (C := RX11) (T := TX11) (N := 74) hx hb ha inlX11 hown hK hP 0 mw_at0 rfl 11 (by decide) (ha _ kf_X11_236) (fun _ h9 => h9) rfl dX11_goes_20 ?_
      refine lv_topi (fun x_72 ex_72 => ?_)
      have hE := bd_at ex_72 hE
      have u_x_72 := congrArg Int32.toInt ex_72
      have r_x_72 := MB_wayEnd hI
      rw [← ex_72] at r_x_72
      refine lv_sipush (v := 4096) hx hb dX11_goes_23 (by decide) ?_
      refine lv_icmp_ne (tgt := 33) hx hb dX11_goes_26 (by decide) (fun c_73 => ?_) (fun c_73 => ?_)
      · have t_c_73 := mt Int32.toInt_inj.mp c_73
        have hE := hE.trans (if_neg c_73)
        exact J_33 mi ma  _ _ hP hD hS hI hFI hFA hE ⟨hU, by omega, MB_fl hI (by omega), by omega⟩ _ (lv_sub hl [0] rfl)
      · have t_c_73 := congrArg Int32.toInt c_73
        have hE := hE.trans (if_pos c_73)
        refine lv_aload_n hx hb dX11_goes_29 rfl (lv_at hl 0 rfl) ?_
        have y9 := MB_wayFirst hI
        have y8 := dw_len hU.1 y9.1
        have y7 := MB_fl hI (by omega)
        have hFc := va_freeW hD hS hA
        refine va_callv (va_runV (As := []) (rest := []) ⟨hx, hb, hml, hown, ha⟩ (m_wayDown l D cI cJ cZ cO _ h0 mq mi ma ph cl  hI (MB_fl hI (by omega)) hU.1.1) (cwV 0 ha (gaV kl_X11_239 km_X11_wayDown ks_X11_wayDown kz_X11 kd_X11_wayDown) rfl rfl rfl (by decide +kernel) ⟨Nat.le_of_ble_eq_true rfl, Nat.le_of_ble_eq_true rfl⟩) ⟨pw_blind, va_recv hK hP (ci := 11) (q0 := 0) rfl rfl, fun U hU hW => ⟨rfl, pw_start hU hW hP hK hD hN⟩⟩ rfl rfl hl.1 rfl (lv_room (Nat.le_of_ble_eq_true rfl)) dX11_goes_30 ⟨Nat.le_of_ble_eq_true rfl, Nat.le_of_ble_eq_true rfl⟩) hS (fun q _ h => hFc q h) hFc (fun u t H1 locs ht hvm hw hB hz1 hk1 hS => ?_)
        obtain ⟨mi_75, ma_76, ⟨hf_77, hX1, hX2⟩, hP, hK1, hD1⟩ := hB
        have hE := bc_atv hX1 hX2 hE
        rw [ht] at hP
        have hD := hD1.weaken (fun k q _ h => hFc q.1 h)
        clear hD1
        generalize H1 = H at hP hS ⊢
        refine W.widen (k := 0) (n := 0) (Nat.le_refl _) (Nat.le_refl _) ?_
        have hI := hf_77.1
        have hFI : ∀ k, k ∉ ([10, 11, 12, 6, 5] : List Nat) → mi_75 k = mi0 k := fun k hk => (hf_77.2.1 k (fun h => hk (by revert h; exact sub_of (by decide) k))).trans (hFI k hk)
        have hFA : ∀ k, k ∉ ([13, 14, 15, 16, 7, 8, 9] : List Nat) → ma_76 k = ma0 k := fun k hk => (hf_77.2.2.1 k (fun h => hk (by revert h; exact sub_of (by decide) k))).trans (hFA k hk)
        obtain ⟨g1, g2, g3⟩ := hf_77.2.2.2
        have g32 := congrArg Int32.toInt (hf_77.2.1 32 (by decide))
        have g6 := congrArg Int32.toInt (hf_77.2.1 6 (by decide))
        have hU2 : (DW 0 (mi_75 4) (mi_75 10) (mi_75 11) (mi_75 12) (ma_76 13) ∧ DA 0 cl (mi_75 4) (mi_75 10) (mi_75 11) (mi_75 17) (mi_75 18) (mi_75 19) (ma_76 20) (ma_76 40) (ma_76 41)) := by
          rw [hf_77.2.1 4 (by decide), hf_77.2.1 12 (by decide), hf_77.2.1 17 (by decide), hf_77.2.1 18 (by decide), hf_77.2.1 19 (by decide), hf_77.2.2.1 20 (by decide), hf_77.2.2.1 40 (by decide), hf_77.2.2.1 41 (by decide)]
          exact ⟨wd_due hU.1 y9.1 g1 g2 g3, da_wd hU.2 (by omega)⟩
        exact J_33 mi_75 ma_76  _ _ hP hD hS hI hFI hFA hE ⟨hU2, by omega, by omega, by omega⟩ _ (lv_sub hl [0] rfl)
    · have t_c_71 := mt Int32.toInt_inj.mp c_71
      have hE := hE.trans (if_neg c_71)
      exact W.vret hx hb hr (fun t ht hW => ⟨⟨(), rfl, trivial, ⟨mi, ma, ⟨⟨hI, fun k hk => (hFI k hk).trans (by rw [hmi0]), fun k hk => (hFA k hk).trans (by rw [hma0]), ⟨dw_ph hU.1, da_ph0 hU.2⟩⟩, _, hRES.symm.trans hE⟩, by rw [ht]; exact hP, va_K.moved hW.alike hK, hD⟩⟩, hS.F ht⟩) hS.2.2 dX11_goes_18

set_option maxRecDepth 100000 in
noncomputable def x_answer_156 (f : Int32) (pb : Int32) : Nat → (Nat → Int32) → (Nat → Nat → Int32) → Int32 → (Option XT)
  | 0, mi, ma, _ => none
  | fu + 1, mi, ma, i3 => (if (200 : Int32) ≤ i3 then bd (mi 18) (fun v1 => bd (v1 + (1 : Int32)) (fun v2 => bd (upd mi 18 v2) (fun m3 => some (m3, ma, 0)))) else bd (mi 18) (fun v4 => bd ((200 : Int32) * v4) (fun v5 => bd (v5 + i3) (fun v6 => bd ((200 : Int32) * f) (fun v7 => bd (v7 + i3) (fun v8 => bd (ma 36 v8.toNatClampNeg) (fun v9 => bd (va_up ma 25 (upd (ma 25) v6.toNatClampNeg (vp_nar .boolean v9))) (fun a10 => bd (i3 + 1) (fun v11 => x_answer_156 f pb fu mi a10 v11)))))))))
set_option maxRecDepth 100000 in
noncomputable def x_answer_86 (f : Int32) (pb : Int32) (mi : Nat → Int32) (ma : Nat → Nat → Int32) : (Option XT) := bd (mi 18) (fun v12 => bd (mi 4) (fun v13 => bd (mi 3) (fun v14 => bd (v13 + v14) (fun v15 => bd (va_up ma 20 (upd (ma 20) v12.toNatClampNeg v15)) (fun a16 => bd (mi 18) (fun v17 => bd (va_up a16 21 (upd (a16 21) v17.toNatClampNeg f)) (fun a18 => bd (mi 18) (fun v19 => bd (a18 34 f.toNatClampNeg) (fun v20 => bd (va_up a18 22 (upd (a18 22) v19.toNatClampNeg v20)) (fun a21 => bd (mi 18) (fun v22 => bd (a21 35 f.toNatClampNeg) (fun v23 => bd (va_up a21 23 (upd (a21 23) v22.toNatClampNeg v23)) (fun a24 => bd (mi 18) (fun v25 => bd (va_up a24 24 (upd (a24 24) v25.toNatClampNeg (vp_nar .boolean pb))) (fun a26 => x_answer_156 f pb 201 mi a26 (0 : Int32))))))))))))))))
set_option maxRecDepth 100000 in
noncomputable def x_answer_36 (f : Int32) (pb : Int32) (mi : Nat → Int32) (ma : Nat → Nat → Int32) : (Option XT) := bd (mi 17) (fun v27 => bd (mi 18) (fun v28 => (if v28 ≤ v27 then bd (upd mi 19 (0 : Int32)) (fun m29 => x_answer_86 f pb m29 ma) else bd (mi 19) (fun v30 => (if v30 = (0 : Int32) then bd (mi 18) (fun v32 => bd (v32 - (1 : Int32)) (fun v33 => bd (ma 20 v33.toNatClampNeg) (fun v34 => bd (mi 4) (fun v35 => bd (mi 3) (fun v36 => bd (v35 + v36) (fun v37 => (if v34 ≤ v37 then bd (upd mi 19 (0 : Int32)) (fun m38 => x_answer_86 f pb m38 ma) else bd (upd mi 19 (1 : Int32)) (fun m39 => x_answer_86 f pb m39 ma)))))))) else bd (upd mi 19 (1 : Int32)) (fun m31 => x_answer_86 f pb m31 ma))))))
set_option maxRecDepth 100000 in
noncomputable def x_answer (f : Int32) (pb : Int32) (mi : Nat → Int32) (ma : Nat → Nat → Int32) : (Option XT) := ax (MB mi ma ∧ (0 ≤ f.toInt ∧ f.toInt < (mi 32).toInt) ∧ (mi 10).toInt ≤ (mi 11).toInt ∧ ∃ (ph : Nat) (cl : Int), ph ≤ 1 ∧ -1100 ≤ cl ∧ DA ph cl (mi 4) (mi 10) (mi 11) (mi 17) (mi 18) (mi 19) (ma 20) (upd (ma 40) f.toNatClampNeg (-1)) (ma 41)) (bd (va_up ma 40 (upd (ma 40) f.toNatClampNeg ((-1) : Int32))) (fun a40 => bd (a40 37 f.toNatClampNeg) (fun v41 => bd (v41 + (1 : Int32)) (fun v42 => bd (va_up a40 37 (upd (a40 37) f.toNatClampNeg v42)) (fun a43 => bd (mi 18) (fun v44 => (if v44 = (6000 : Int32) then bd (mi 17) (fun v45 => bc (x_acksDownF v45 mi a43) (fun m46 a47 _ => x_answer_36 f pb m46 a47)) else x_answer_36 f pb mi a43)))))))
set_option maxHeartbeats 4000000 in
set_option maxRecDepth 100000 in
theorem m_answer (l : Launch) (D : va_G) (cI cJ cZ cO : ClassId) (sz : Nat) (h0 : Nat) (mq : Nat → Nat) (mi : Nat → Int32) (ma : Nat → Nat → Int32) (ph : Nat) (cl : Int) (f pb : Int32) (hI : MB mi ma) (hf0 : 0 ≤ f.toInt) (hf4 : f.toInt < 4) (hff : f.toInt < (mi 32).toInt) (hph : ph ≤ 1) (hc1 : -1100 ≤ cl) (hc2 : cl ≤ 512) (hw1 : (mi 10).toInt ≤ (mi 11).toInt) (hw2 : (mi 11).toInt ≤ (mi 10).toInt + 1002) (hU : DA ph (cl + 1) (mi 4) (mi 10) (mi 11) (mi 17) (mi 18) (mi 19) (ma 20) (upd (ma 40) f.toNatClampNeg (-1)) (ma 41)) : Met l yX11_answer (wa yX11_answer cX11_answer 4 none) ({ frames := 1, cells := 0, slots := 0, locals := 25 }) (va_Pc [.ref h0, .int f, .int pb] (pw_s D cI cJ cZ cO sz (mw cI cZ h0 mq mi ma))) (va_Qv (fun (_ : Unit) => True) (fun (_ : Unit) (t : State) => ∃ (mi2 : Nat → Int32) (ma2 : Nat → Nat → Int32), ((MB mi2 ma2 ∧ (∀ k, k ∉ ([17, 18, 19] : List Nat) → mi2 k = mi k) ∧ (∀ k, k ∉ ([40, 37, 20, 21, 22, 23, 24, 25] : List Nat) → ma2 k = ma k) ∧ DA ph cl (mi2 4) (mi2 10) (mi2 11) (mi2 17) (mi2 18) (mi2 19) (ma2 20) (ma2 40) (ma2 41)) ∧ ∃ rr : Int32, (x_answer f pb mi ma) = some (mi2, ma2, rr)) ∧ pw_t D cI cJ cZ cO (va_A (mw cI cZ h0 mq mi ma) sz) (mw cI cZ h0 mq mi2 ma2) t) (va_A (mw cI cZ h0 mq mi ma) sz)) 0 0 (va_A (mw cI cZ h0 mq mi ma) sz) := by
  refine Met.ofW (cc := cX11_answer) (maxL := 4) (ret := none) (by decide) rfl ?_
  intro p e s m args below meth c s₁ B hml hv
  obtain ⟨rfl, hsz, hP, hK, hD0, hN⟩ := hv
  have hx := B.exec
  have hb := B.bytes
  have hr := B.returns
  have hts := atoms_spec (ws := (wa yX11_answer cX11_answer 4 none)) B.pre
  have ha : ∀ w ∈ wsL_law, w.before _ s = true := fun w h => hts w (List.mem_cons_of_mem _ h)
  have hown : s.vm.findClass RX11 = some m.cls := findClass_of_methodNamed B.named
  have hlocks := B.notSynchronized
  subst hsz
  have hD := hD0.self (sz := s.heap.size)
  generalize hAe : va_A (mw cI cZ h0 mq mi ma) s.heap.size = A at hD ⊢
  have hA : ∀ q : Nat, s.heap.size ≤ q → A q := fun q h => by rw [← hAe]; exact Or.inr h
  have hS : va_S A s.heap s.heap [] := va_S.rf
  have hP : va_P D vwCl (mw cI cZ h0 mq mi ma) s.heap := hP
  have hl := lv_entry ([.ref h0, .int f, .int pb]) (n := 4) (Nat.le_of_ble_eq_true rfl)
  rw [lg_entry_eq]
  generalize (lg_sl ([.ref h0, .int f, .int pb]) ++ List.replicate (4 - (lg_sl ([.ref h0, .int f, .int pb])).length) Slot.unset).toArray = ls at hl ⊢
  have hl : lv_has ls 4 [(0, .ref h0), (1, .int f), (2, .int pb)] := hl
  have kc_m1 := tk_m1
  have kc_0 := tk_0
  have kc_1 := tk_1
  have kc_200 := tk_200
  have kc_6000 := tk_6000
  obtain ⟨mi0, hmi0⟩ : ∃ y, y = mi := ⟨_, rfl⟩
  obtain ⟨ma0, hma0⟩ : ∃ y, y = ma := ⟨_, rfl⟩
  have hFI : ∀ k, k ∉ ([17, 18, 19] : List Nat) → mi k = mi0 k := fun k _ => by rw [hmi0]
  have hFA : ∀ k, k ∉ ([40, 37, 20, 21, 22, 23, 24, 25] : List Nat) → ma k = ma0 k := fun k _ => by rw [hma0]
  obtain ⟨QP, hQP⟩ : ∃ y : State → Prop, y = (MQ below (va_Qv (fun (_ : Unit) => True) (fun (_ : Unit) (t : State) => ∃ (mi2 : Nat → Int32) (ma2 : Nat → Nat → Int32), ((MB mi2 ma2 ∧ (∀ k, k ∉ ([17, 18, 19] : List Nat) → mi2 k = mi k) ∧ (∀ k, k ∉ ([40, 37, 20, 21, 22, 23, 24, 25] : List Nat) → ma2 k = ma k) ∧ DA ph cl (mi2 4) (mi2 10) (mi2 11) (mi2 17) (mi2 18) (mi2 19) (ma2 20) (ma2 40) (ma2 41)) ∧ ∃ rr : Int32, (x_answer f pb mi ma) = some (mi2, ma2, rr)) ∧ pw_t D cI cJ cZ cO A (mw cI cZ h0 mq mi2 ma2) t) A) #[(.ref h0 : Value), (.int f : Value), (.int pb : Value)] s 0 0 A) := ⟨_, rfl⟩
  obtain ⟨RES, hRES⟩ : ∃ y, y = (x_answer f pb mi ma) := ⟨_, rfl⟩
  have hfN : f.toNatClampNeg < 4 := in_lt (vpi_of (n := 4) hf0 (by omega))
  have hle := MB_le2n hI f.toNatClampNeg hfN
  have hlh := MB_le2h hI f.toNatClampNeg hfN
  have J_156 : ∀ (n_156 : Nat), ∀ (mi : Nat → Int32) (ma : Nat → Nat → Int32) (i3 : Int32) (H : Heap) (locs : List Loc), va_P D vwCl (mw cI cZ h0 mq mi ma) H → va_D A (mw cI cZ h0 mq mi ma) → va_S A s.heap H locs → MB mi ma → (∀ k, k ∉ ([17, 18, 19] : List Nat) → mi k = mi0 k) → (∀ k, k ∉ ([40, 37, 20, 21, 22, 23, 24, 25] : List Nat) → ma k = ma0 k) → RES = x_answer_156 f pb n_156 mi ma i3 → ((∀ e2 : Int32, e2.toInt = (mi 18).toInt + 1 → DA ph cl (mi 4) (mi 10) (mi 11) (mi 17) e2 (mi 19) (ma 20) (ma 40) (ma 41)) ∧ 0 ≤ i3.toInt ∧ (mi 18).toInt < 6000 ∧ f.toInt < (mi 32).toInt) → ∀ (ls : Array Slot), lv_has ls 4 [(0, .ref h0), (1, .int f), (2, .int pb), (3, .int i3)] → ((200 - i3.toInt).toNat) < n_156 → W p l e ({ frames := 1, cells := 0, slots := 0, locals := 25 }) s m #[(.ref h0 : Value), (.int f : Value), (.int pb : Value)] below meth c H locs 0 0 QP (F0 m 156 ls []) := by
    intro n_156
    induction n_156 with
    | zero => intros; exact absurd ‹_ < 0› (Nat.not_lt_zero _)
    | succ n_156 ih_156 =>
      intro mi ma i3 H locs hP hD hS hI hFI hFA hE hv ls hl hm
      have hfN : f.toNatClampNeg < 4 := in_lt (vpi_of (n := 4) hf0 (by omega))
      have hle := MB_le2n hI f.toNatClampNeg hfN
      have hlh := MB_le2h hI f.toNatClampNeg hfN
      rw [x_answer_156] at hE
      refine lv_iload_n hx hb dX11_answer_156 rfl (lv_at hl 3 rfl) ?_
      refine lv_sipush (v := 200) hx hb dX11_answer_157 (by decide) ?_
      refine lv_icmp_ge (tgt := 196) hx hb dX11_answer_160 (by decide) (fun c_1 => ?_) (fun c_1 => ?_)
      · have t_c_1 := Int32.le_iff_toInt_le.mp c_1
        have hE := hE.trans (if_pos c_1)
        refine lv_aload_n hx hb dX11_answer_196 rfl (lv_at hl 0 rfl) ?_
        refine lv_dup hx hb dX11_answer_197 rfl ?_
        refine va_get (D := D) (ci := 11) (v := .int (mi 18)) (C := RX11) (T := TX11) (N := 74) hx hb ha inlX11 hown hK hP 0 mw_at0 rfl 18 (by decide) (ha _ kf_X11_268) (fun _ h9 => h9) rfl dX11_answer_198 ?_
        refine lv_topi (fun x_2 ex_2 => ?_)
        have hE := bd_at ex_2 hE
        have u_x_2 := congrArg Int32.toInt ex_2
        have r_x_2 := MB_ackEnd hI
        rw [← ex_2] at r_x_2
        refine lv_iconst (v := 1) hx hb dX11_answer_201 (by decide) ?_
        refine lv_iadd hx hb dX11_answer_202 ?_
        refine lv_topi (fun x_3 ex_3 => ?_)
        have hE := bd_at ex_3 hE
        try have t_x_3 := ti_add ex_3 (by omega) (by omega)
        refine va_put (D := D) (ci := 11) (v := .int x_3) (ty := .int) (C := RX11) (T := TX11) (N := 74) hx hb ha inlX11 tyX11 tyX11_ok nmX11 hown hK hP hD hS 0 mw_at0 rfl 18 (by decide) (ha _ kf_X11_268) (fun _ h9 => h9) rfl (by decide +kernel) rfl rfl (Nat.le_of_ble_eq_true rfl) dX11_answer_203 (fun H locs hP hD hS => ?_)
        have hP : va_P D vwCl (mw cI cZ h0 mq (upd mi 18 x_3) ma) H := mwP_18 hP
        have hD : va_D A (mw cI cZ h0 mq (upd mi 18 x_3) ma) := mwD_18 hD
        generalize hmi_4 : upd mi 18 x_3 = mi_4 at hP hD
        have hI : MB mi_4 ma := by rw [← hmi_4]; exact MBi_ae hI (by omega) (by omega) (by omega)
        have hFI : ∀ k, k ∉ ([17, 18, 19] : List Nat) → mi_4 k = mi0 k := fun k hk => by rw [← hmi_4]; exact (if_neg (fun e => hk (by rw [e]; decide))).trans (hFI k hk)
        have hE := bs_at hmi_4 hE
        rw [hQP]
        exact W.vret hx hb hr (fun t ht hW => ⟨⟨(), rfl, trivial, ⟨mi_4, ma, ⟨⟨hI, fun k hk => (hFI k hk).trans (by rw [hmi0]), fun k hk => (hFA k hk).trans (by rw [hma0]), (by rw [show mi_4 4 = mi 4 from (show mi_4 4 = mi 4 from (congrFun hmi_4 4).symm), show mi_4 10 = mi 10 from (show mi_4 10 = mi 10 from (congrFun hmi_4 10).symm), show mi_4 11 = mi 11 from (show mi_4 11 = mi 11 from (congrFun hmi_4 11).symm), show mi_4 17 = mi 17 from (show mi_4 17 = mi 17 from (congrFun hmi_4 17).symm), show mi_4 18 = x_3 from ((congrFun hmi_4 18).symm), show mi_4 19 = mi 19 from (show mi_4 19 = mi 19 from (congrFun hmi_4 19).symm)]; exact hv.1 x_3 (by omega))⟩, _, hRES.symm.trans hE⟩, by rw [ht]; exact hP, va_K.moved hW.alike hK, hD⟩⟩, hS.F ht⟩) hS.2.2 dX11_answer_206
      · have t_c_1 := Int32.lt_iff_toInt_lt.mp (Int32.not_le.mp c_1)
        have hE := hE.trans (if_neg c_1)
        refine lv_aload_n hx hb dX11_answer_163 rfl (lv_at hl 0 rfl) ?_
        refine va_get (D := D) (ci := 11) (v := .ref (mq 25)) (C := RX11) (T := TX11) (N := 74) hx hb ha inlX11 hown hK hP 0 mw_at0 rfl 25 (by decide) (ha _ kf_X11_61) (fun _ h9 => h9) rfl dX11_answer_164 ?_
        refine lv_sipush (v := 200) hx hb dX11_answer_167 (by decide) ?_
        refine lv_aload_n hx hb dX11_answer_170 rfl (lv_at hl 0 rfl) ?_
        refine va_get (D := D) (ci := 11) (v := .int (mi 18)) (C := RX11) (T := TX11) (N := 74) hx hb ha inlX11 hown hK hP 0 mw_at0 rfl 18 (by decide) (ha _ kf_X11_268) (fun _ h9 => h9) rfl dX11_answer_171 ?_
        refine lv_topi (fun x_5 ex_5 => ?_)
        have hE := bd_at ex_5 hE
        have u_x_5 := congrArg Int32.toInt ex_5
        have r_x_5 := MB_ackEnd hI
        rw [← ex_5] at r_x_5
        refine lv_imul hx hb dX11_answer_174 ?_
        refine lv_topi (fun x_6 ex_6 => ?_)
        have hE := bd_at ex_6 hE
        try have t_x_6 := ti_mulc (k := 200) ex_6 tk_200 (by omega) (by omega)
        refine lv_iload_n hx hb dX11_answer_175 rfl (lv_at hl 3 rfl) ?_
        refine lv_iadd hx hb dX11_answer_176 ?_
        refine lv_topi (fun x_7 ex_7 => ?_)
        have hE := bd_at ex_7 hE
        try have t_x_7 := ti_add ex_7 (by omega) (by omega)
        refine lv_aload_n hx hb dX11_answer_177 rfl (lv_at hl 0 rfl) ?_
        refine va_get (D := D) (ci := 11) (v := .ref (mq 36)) (C := RX11) (T := TX11) (N := 74) hx hb ha inlX11 hown hK hP 0 mw_at0 rfl 36 (by decide) (ha _ kf_X11_76) (fun _ h9 => h9) rfl dX11_answer_178 ?_
        refine lv_sipush (v := 200) hx hb dX11_answer_181 (by decide) ?_
        refine lv_iload_n hx hb dX11_answer_184 rfl (lv_at hl 1 rfl) ?_
        refine lv_imul hx hb dX11_answer_185 ?_
        refine lv_topi (fun x_8 ex_8 => ?_)
        have hE := bd_at ex_8 hE
        try have t_x_8 := ti_mulc (k := 200) ex_8 tk_200 (by omega) (by omega)
        refine lv_iload_n hx hb dX11_answer_186 rfl (lv_at hl 3 rfl) ?_
        refine lv_iadd hx hb dX11_answer_187 ?_
        refine lv_topi (fun x_9 ex_9 => ?_)
        have hE := bd_at ex_9 hE
        try have t_x_9 := ti_add ex_9 (by omega) (by omega)
        have hin_10 : vp_in x_9 800 := vpi_of (by omega) (by omega)
        refine va_zald hx hb hK hP 18 2 mw_at36 rfl hin_10 dX11_answer_188 ?_
        refine lv_topi (fun x_11 ex_11 => ?_)
        have hE := bd_at ex_11 hE
        have u_x_11 := congrArg Int32.toInt ex_11
        have hin_12 : vp_in x_7 1200000 := vpi_of (by omega) (by omega)
        refine va_zast hx hb hK hP hD hS 13 2 mw_at25 rfl hin_12 dX11_answer_189 (fun H locs hP hD hS => ?_)
        have hP : va_P D vwCl (mw cI cZ h0 mq mi (va_up ma 25 (upd (ma 25) x_7.toNatClampNeg (vp_nar .boolean x_11)))) H := mwP_25 hP
        have hD : va_D A (mw cI cZ h0 mq mi (va_up ma 25 (upd (ma 25) x_7.toNatClampNeg (vp_nar .boolean x_11)))) := mwD_25 hD
        generalize hma_13 : va_up ma 25 (upd (ma 25) x_7.toNatClampNeg (vp_nar .boolean x_11)) = ma_13 at hP hD
        have hI : MB mi ma_13 := by rw [← hma_13]; exact MBa_ackBoard hI
        have hFA : ∀ k, k ∉ ([40, 37, 20, 21, 22, 23, 24, 25] : List Nat) → ma_13 k = ma0 k := fun k hk => by rw [← hma_13]; exact (va_up_ne _ _ (fun e => hk (by rw [e]; decide))).trans (hFA k hk)
        have hE := bs_at hma_13 hE
        obtain ⟨x_14, ex_14⟩ : ∃ y : Int32, y = i3 + 1 := ⟨_, rfl⟩
        have hE := bd_at ex_14 hE
        refine lv_iinc (v := x_14) (lv' := [(3, .int x_14), (0, .ref h0), (1, .int f), (2, .int pb)]) hx hb dX11_answer_190 hl (k := 3) rfl (by rw [ex_14]; rfl) (by decide) rfl (fun ls hl => ?_)
        try have t_x_14 := ti_add ex_14 (by omega) (by omega)
        refine lv_goto (tgt := 156) hx hb dX11_answer_193 (by decide) ?_
        exact ih_156 mi ma_13 x_14 _ _ hP hD hS hI hFI hFA hE ⟨fun e2 he2 => by rw [show ma_13 20 = ma 20 from (mu_ne (k := 25) (j := 20) hma_13 (by decide)), show ma_13 40 = ma 40 from (mu_ne (k := 25) (j := 40) hma_13 (by decide)), show ma_13 41 = ma 41 from (mu_ne (k := 25) (j := 41) hma_13 (by decide))]; exact hv.1 e2 he2, by omega, by omega, by omega⟩ _ (lv_sub hl [1, 2, 3, 0] rfl) (by omega)
  have J_86 : ∀ (mi : Nat → Int32) (ma : Nat → Nat → Int32) (H : Heap) (locs : List Loc), va_P D vwCl (mw cI cZ h0 mq mi ma) H → va_D A (mw cI cZ h0 mq mi ma) → va_S A s.heap H locs → MB mi ma → (∀ k, k ∉ ([17, 18, 19] : List Nat) → mi k = mi0 k) → (∀ k, k ∉ ([40, 37, 20, 21, 22, 23, 24, 25] : List Nat) → ma k = ma0 k) → RES = x_answer_86 f pb mi ma → ((∃ m0 : Int32, DA ph (cl + 1) (mi 4) (mi 10) (mi 11) (mi 17) (mi 18) m0 (ma 20) (ma 40) (ma 41) ∧ (mi 19 = 0 → (mi 17).toInt < (mi 18).toInt → m0 = 0 ∧ ∀ k : Nat, (k : Int) = (mi 18).toInt - 1 → (ma 20 k).toInt ≤ (mi 4).toInt + (mi 3).toInt)) ∧ (mi 18).toInt < 6000 ∧ f.toInt < (mi 32).toInt ∧ (mi 10).toInt ≤ (mi 11).toInt ∧ (mi 11).toInt ≤ (mi 10).toInt + 1002) → ∀ (ls : Array Slot), lv_has ls 4 [(0, .ref h0), (1, .int f), (2, .int pb)] → W p l e ({ frames := 1, cells := 0, slots := 0, locals := 25 }) s m #[(.ref h0 : Value), (.int f : Value), (.int pb : Value)] below meth c H locs 0 0 QP (F0 m 86 ls []) := by
    intro mi ma H locs hP hD hS hI hFI hFA hE hv ls hl
    have hfN : f.toNatClampNeg < 4 := in_lt (vpi_of (n := 4) hf0 (by omega))
    have hle := MB_le2n hI f.toNatClampNeg hfN
    have hlh := MB_le2h hI f.toNatClampNeg hfN
    rw [x_answer_86] at hE
    obtain ⟨⟨m0, hw0, hw3⟩, hv1, hv2, hv3, hv4⟩ := hv
    have hI0 := hI
    refine lv_aload_n hx hb dX11_answer_86 rfl (lv_at hl 0 rfl) ?_
    refine va_get (D := D) (ci := 11) (v := .ref (mq 20)) (C := RX11) (T := TX11) (N := 74) hx hb ha inlX11 hown hK hP 0 mw_at0 rfl 20 (by decide) (ha _ kf_X11_45) (fun _ h9 => h9) rfl dX11_answer_87 ?_
    refine lv_aload_n hx hb dX11_answer_90 rfl (lv_at hl 0 rfl) ?_
    refine va_get (D := D) (ci := 11) (v := .int (mi 18)) (C := RX11) (T := TX11) (N := 74) hx hb ha inlX11 hown hK hP 0 mw_at0 rfl 18 (by decide) (ha _ kf_X11_268) (fun _ h9 => h9) rfl dX11_answer_91 ?_
    refine lv_topi (fun x_15 ex_15 => ?_)
    have hE := bd_at ex_15 hE
    have u_x_15 := congrArg Int32.toInt ex_15
    have r_x_15 := MB_ackEnd hI
    rw [← ex_15] at r_x_15
    refine lv_aload_n hx hb dX11_answer_94 rfl (lv_at hl 0 rfl) ?_
    refine va_get (D := D) (ci := 11) (v := .int (mi 4)) (C := RX11) (T := TX11) (N := 74) hx hb ha inlX11 hown hK hP 0 mw_at0 rfl 4 (by decide) (ha _ kf_X11_207) (fun _ h9 => h9) rfl dX11_answer_95 ?_
    refine lv_topi (fun x_16 ex_16 => ?_)
    have hE := bd_at ex_16 hE
    have u_x_16 := congrArg Int32.toInt ex_16
    have r_x_16 := MB_tick hI
    rw [← ex_16] at r_x_16
    refine lv_aload_n hx hb dX11_answer_98 rfl (lv_at hl 0 rfl) ?_
    refine va_get (D := D) (ci := 11) (v := .int (mi 3)) (C := RX11) (T := TX11) (N := 74) hx hb ha inlX11 hown hK hP 0 mw_at0 rfl 3 (by decide) (ha _ kf_X11_19) (fun _ h9 => h9) rfl dX11_answer_99 ?_
    refine lv_topi (fun x_17 ex_17 => ?_)
    have hE := bd_at ex_17 hE
    have u_x_17 := congrArg Int32.toInt ex_17
    have r_x_17 := MB_back hI
    rw [← ex_17] at r_x_17
    refine lv_iadd hx hb dX11_answer_102 ?_
    refine lv_topi (fun x_18 ex_18 => ?_)
    have hE := bd_at ex_18 hE
    try have t_x_18 := ti_add ex_18 (by omega) (by omega)
    have hin_19 : vp_in x_15 6000 := vpi_of (by omega) (by omega)
    refine va_iast hx hb hK hP hD hS 8 0 mw_at20 rfl hin_19 dX11_answer_103 (fun H locs hP hD hS => ?_)
    have hP : va_P D vwCl (mw cI cZ h0 mq mi (va_up ma 20 (upd (ma 20) x_15.toNatClampNeg x_18))) H := mwP_20 hP
    have hD : va_D A (mw cI cZ h0 mq mi (va_up ma 20 (upd (ma 20) x_15.toNatClampNeg x_18))) := mwD_20 hD
    generalize hma_20 : va_up ma 20 (upd (ma 20) x_15.toNatClampNeg x_18) = ma_20 at hP hD
    have hI : MB mi ma_20 := by rw [← hma_20]; exact MBa_ackAt hI
    have hFA : ∀ k, k ∉ ([40, 37, 20, 21, 22, 23, 24, 25] : List Nat) → ma_20 k = ma0 k := fun k hk => by rw [← hma_20]; exact (va_up_ne _ _ (fun e => hk (by rw [e]; decide))).trans (hFA k hk)
    have hE := bs_at hma_20 hE
    refine lv_aload_n hx hb dX11_answer_104 rfl (lv_at hl 0 rfl) ?_
    refine va_get (D := D) (ci := 11) (v := .ref (mq 21)) (C := RX11) (T := TX11) (N := 74) hx hb ha inlX11 hown hK hP 0 mw_at0 rfl 21 (by decide) (ha _ kf_X11_48) (fun _ h9 => h9) rfl dX11_answer_105 ?_
    refine lv_aload_n hx hb dX11_answer_108 rfl (lv_at hl 0 rfl) ?_
    refine va_get (D := D) (ci := 11) (v := .int (mi 18)) (C := RX11) (T := TX11) (N := 74) hx hb ha inlX11 hown hK hP 0 mw_at0 rfl 18 (by decide) (ha _ kf_X11_268) (fun _ h9 => h9) rfl dX11_answer_109 ?_
    refine lv_topi (fun x_21 ex_21 => ?_)
    have hE := bd_at ex_21 hE
    have u_x_21 := congrArg Int32.toInt ex_21
    have r_x_21 := MB_ackEnd hI
    rw [← ex_21] at r_x_21
    refine lv_iload_n hx hb dX11_answer_112 rfl (lv_at hl 1 rfl) ?_
    have hin_22 : vp_in x_21 6000 := vpi_of (by omega) (by omega)
    refine va_iast hx hb hK hP hD hS 9 0 mw_at21 rfl hin_22 dX11_answer_113 (fun H locs hP hD hS => ?_)
    have hP : va_P D vwCl (mw cI cZ h0 mq mi (va_up ma_20 21 (upd (ma_20 21) x_21.toNatClampNeg f))) H := mwP_21 hP
    have hD : va_D A (mw cI cZ h0 mq mi (va_up ma_20 21 (upd (ma_20 21) x_21.toNatClampNeg f))) := mwD_21 hD
    generalize hma_23 : va_up ma_20 21 (upd (ma_20 21) x_21.toNatClampNeg f) = ma_23 at hP hD
    have hI : MB mi ma_23 := by rw [← hma_23]; exact MBa_ackFlow hI (by omega) (Or.inr (by omega))
    have hFA : ∀ k, k ∉ ([40, 37, 20, 21, 22, 23, 24, 25] : List Nat) → ma_23 k = ma0 k := fun k hk => by rw [← hma_23]; exact (va_up_ne _ _ (fun e => hk (by rw [e]; decide))).trans (hFA k hk)
    have hE := bs_at hma_23 hE
    refine lv_aload_n hx hb dX11_answer_114 rfl (lv_at hl 0 rfl) ?_
    refine va_get (D := D) (ci := 11) (v := .ref (mq 22)) (C := RX11) (T := TX11) (N := 74) hx hb ha inlX11 hown hK hP 0 mw_at0 rfl 22 (by decide) (ha _ kf_X11_51) (fun _ h9 => h9) rfl dX11_answer_115 ?_
    refine lv_aload_n hx hb dX11_answer_118 rfl (lv_at hl 0 rfl) ?_
    refine va_get (D := D) (ci := 11) (v := .int (mi 18)) (C := RX11) (T := TX11) (N := 74) hx hb ha inlX11 hown hK hP 0 mw_at0 rfl 18 (by decide) (ha _ kf_X11_268) (fun _ h9 => h9) rfl dX11_answer_119 ?_
    refine lv_topi (fun x_24 ex_24 => ?_)
    have hE := bd_at ex_24 hE
    have u_x_24 := congrArg Int32.toInt ex_24
    have r_x_24 := MB_ackEnd hI
    rw [← ex_24] at r_x_24
    refine lv_aload_n hx hb dX11_answer_122 rfl (lv_at hl 0 rfl) ?_
    refine va_get (D := D) (ci := 11) (v := .ref (mq 34)) (C := RX11) (T := TX11) (N := 74) hx hb ha inlX11 hown hK hP 0 mw_at0 rfl 34 (by decide) (ha _ kf_X11_70) (fun _ h9 => h9) rfl dX11_answer_123 ?_
    refine lv_iload_n hx hb dX11_answer_126 rfl (lv_at hl 1 rfl) ?_
    have hin_25 : vp_in f 4 := vpi_of (by omega) (by omega)
    refine va_iald hx hb hK hP 16 0 mw_at34 rfl hin_25 dX11_answer_127 ?_
    refine lv_topi (fun x_26 ex_26 => ?_)
    have hE := bd_at ex_26 hE
    have u_x_26 := congrArg Int32.toInt ex_26
    have r_x_26 := rg_ld (MB_wanted hI) hin_25 ex_26
    have hin_27 : vp_in x_24 6000 := vpi_of (by omega) (by omega)
    refine va_iast hx hb hK hP hD hS 10 0 mw_at22 rfl hin_27 dX11_answer_128 (fun H locs hP hD hS => ?_)
    have hP : va_P D vwCl (mw cI cZ h0 mq mi (va_up ma_23 22 (upd (ma_23 22) x_24.toNatClampNeg x_26))) H := mwP_22 hP
    have hD : va_D A (mw cI cZ h0 mq mi (va_up ma_23 22 (upd (ma_23 22) x_24.toNatClampNeg x_26))) := mwD_22 hD
    generalize hma_28 : va_up ma_23 22 (upd (ma_23 22) x_24.toNatClampNeg x_26) = ma_28 at hP hD
    have hI : MB mi ma_28 := by rw [← hma_28]; exact MBa_ackNext hI (by omega) (by omega)
    have hFA : ∀ k, k ∉ ([40, 37, 20, 21, 22, 23, 24, 25] : List Nat) → ma_28 k = ma0 k := fun k hk => by rw [← hma_28]; exact (va_up_ne _ _ (fun e => hk (by rw [e]; decide))).trans (hFA k hk)
    have hE := bs_at hma_28 hE
    refine lv_aload_n hx hb dX11_answer_129 rfl (lv_at hl 0 rfl) ?_
    refine va_get (D := D) (ci := 11) (v := .ref (mq 23)) (C := RX11) (T := TX11) (N := 74) hx hb ha inlX11 hown hK hP 0 mw_at0 rfl 23 (by decide) (ha _ kf_X11_54) (fun _ h9 => h9) rfl dX11_answer_130 ?_
    refine lv_aload_n hx hb dX11_answer_133 rfl (lv_at hl 0 rfl) ?_
    refine va_get (D := D) (ci := 11) (v := .int (mi 18)) (C := RX11) (T := TX11) (N := 74) hx hb ha inlX11 hown hK hP 0 mw_at0 rfl 18 (by decide) (ha _ kf_X11_268) (fun _ h9 => h9) rfl dX11_answer_134 ?_
    refine lv_topi (fun x_29 ex_29 => ?_)
    have hE := bd_at ex_29 hE
    have u_x_29 := congrArg Int32.toInt ex_29
    have r_x_29 := MB_ackEnd hI
    rw [← ex_29] at r_x_29
    refine lv_aload_n hx hb dX11_answer_137 rfl (lv_at hl 0 rfl) ?_
    refine va_get (D := D) (ci := 11) (v := .ref (mq 35)) (C := RX11) (T := TX11) (N := 74) hx hb ha inlX11 hown hK hP 0 mw_at0 rfl 35 (by decide) (ha _ kf_X11_73) (fun _ h9 => h9) rfl dX11_answer_138 ?_
    refine lv_iload_n hx hb dX11_answer_141 rfl (lv_at hl 1 rfl) ?_
    have hin_30 : vp_in f 4 := vpi_of (by omega) (by omega)
    refine va_iald hx hb hK hP 17 0 mw_at35 rfl hin_30 dX11_answer_142 ?_
    refine lv_topi (fun x_31 ex_31 => ?_)
    have hE := bd_at ex_31 hE
    have u_x_31 := congrArg Int32.toInt ex_31
    have r_x_31 := rg_ld (MB_window hI) hin_30 ex_31
    have hin_32 : vp_in x_29 6000 := vpi_of (by omega) (by omega)
    refine va_iast hx hb hK hP hD hS 11 0 mw_at23 rfl hin_32 dX11_answer_143 (fun H locs hP hD hS => ?_)
    have hP : va_P D vwCl (mw cI cZ h0 mq mi (va_up ma_28 23 (upd (ma_28 23) x_29.toNatClampNeg x_31))) H := mwP_23 hP
    have hD : va_D A (mw cI cZ h0 mq mi (va_up ma_28 23 (upd (ma_28 23) x_29.toNatClampNeg x_31))) := mwD_23 hD
    generalize hma_33 : va_up ma_28 23 (upd (ma_28 23) x_29.toNatClampNeg x_31) = ma_33 at hP hD
    have hI : MB mi ma_33 := by rw [← hma_33]; exact MBa_ackWindow hI (by omega) (by omega)
    have hFA : ∀ k, k ∉ ([40, 37, 20, 21, 22, 23, 24, 25] : List Nat) → ma_33 k = ma0 k := fun k hk => by rw [← hma_33]; exact (va_up_ne _ _ (fun e => hk (by rw [e]; decide))).trans (hFA k hk)
    have hE := bs_at hma_33 hE
    refine lv_aload_n hx hb dX11_answer_144 rfl (lv_at hl 0 rfl) ?_
    refine va_get (D := D) (ci := 11) (v := .ref (mq 24)) (C := RX11) (T := TX11) (N := 74) hx hb ha inlX11 hown hK hP 0 mw_at0 rfl 24 (by decide) (ha _ kf_X11_57) (fun _ h9 => h9) rfl dX11_answer_145 ?_
    refine lv_aload_n hx hb dX11_answer_148 rfl (lv_at hl 0 rfl) ?_
    refine va_get (D := D) (ci := 11) (v := .int (mi 18)) (C := RX11) (T := TX11) (N := 74) hx hb ha inlX11 hown hK hP 0 mw_at0 rfl 18 (by decide) (ha _ kf_X11_268) (fun _ h9 => h9) rfl dX11_answer_149 ?_
    refine lv_topi (fun x_34 ex_34 => ?_)
    have hE := bd_at ex_34 hE
    have u_x_34 := congrArg Int32.toInt ex_34
    have r_x_34 := MB_ackEnd hI
    rw [← ex_34] at r_x_34
    refine lv_iload_n hx hb dX11_answer_152 rfl (lv_at hl 2 rfl) ?_
    have hin_35 : vp_in x_34 6000 := vpi_of (by omega) (by omega)
    refine va_zast hx hb hK hP hD hS 12 2 mw_at24 rfl hin_35 dX11_answer_153 (fun H locs hP hD hS => ?_)
    have hP : va_P D vwCl (mw cI cZ h0 mq mi (va_up ma_33 24 (upd (ma_33 24) x_34.toNatClampNeg (vp_nar .boolean pb)))) H := mwP_24 hP
    have hD : va_D A (mw cI cZ h0 mq mi (va_up ma_33 24 (upd (ma_33 24) x_34.toNatClampNeg (vp_nar .boolean pb)))) := mwD_24 hD
    generalize hma_36 : va_up ma_33 24 (upd (ma_33 24) x_34.toNatClampNeg (vp_nar .boolean pb)) = ma_36 at hP hD
    have hI : MB mi ma_36 := by rw [← hma_36]; exact MBa_ackPlain hI
    have hFA : ∀ k, k ∉ ([40, 37, 20, 21, 22, 23, 24, 25] : List Nat) → ma_36 k = ma0 k := fun k hk => by rw [← hma_36]; exact (va_up_ne _ _ (fun e => hk (by rw [e]; decide))).trans (hFA k hk)
    have hE := bs_at hma_36 hE
    refine lv_iconst (v := 0) hx hb dX11_answer_154 (by decide) ?_
    refine lv_istore_n (lv' := [(3, .int 0), (0, .ref h0), (1, .int f), (2, .int pb)]) hx hb dX11_answer_155 rfl hl (by decide) rfl (fun ls hl => ?_)
    have a20 : ma_36 20 = upd (ma 20) x_15.toNatClampNeg x_18 := ((mu_ne (k := 24) (j := 20) hma_36 (by decide))).trans (((mu_ne (k := 23) (j := 20) hma_33 (by decide))).trans (((mu_ne (k := 22) (j := 20) hma_28 (by decide))).trans (((mu_ne (k := 21) (j := 20) hma_23 (by decide))).trans ((mu_eq (k := 20) hma_20)))))
    have a40 : ma_36 40 = ma 40 := ((mu_ne (k := 24) (j := 40) hma_36 (by decide))).trans (((mu_ne (k := 23) (j := 40) hma_33 (by decide))).trans (((mu_ne (k := 22) (j := 40) hma_28 (by decide))).trans (((mu_ne (k := 21) (j := 40) hma_23 (by decide))).trans ((mu_ne (k := 20) (j := 40) hma_20 (by decide))))))
    have a41 : ma_36 41 = ma 41 := ((mu_ne (k := 24) (j := 41) hma_36 (by decide))).trans (((mu_ne (k := 23) (j := 41) hma_33 (by decide))).trans (((mu_ne (k := 22) (j := 41) hma_28 (by decide))).trans (((mu_ne (k := 21) (j := 41) hma_23 (by decide))).trans ((mu_ne (k := 20) (j := 41) hma_20 (by decide))))))
    have fw9 := MB_back hI0
    have wf9 := MB_ackFirst hI0
    have hd2 : ∀ e2 : Int32, e2.toInt = (mi 18).toInt + 1 → DA ph cl (mi 4) (mi 10) (mi 11) (mi 17) e2 (mi 19) (ma_36 20) (ma_36 40) (ma_36 41) := by
      intro e2 he2
      rw [a20, a40, a41, ex_15]
      exact da_add hw0 wf9.1 fw9 (by omega) he2 (by omega) hc2 (fun a b => ⟨(hw3 a b).1, fun k hk => by have q9 := (hw3 a b).2 k hk; omega⟩)
    exact J_156 201 mi ma_36 (0 : Int32) _ _ hP hD hS hI hFI hFA hE ⟨hd2, by omega, by omega, by omega⟩ _ (lv_sub hl [1, 2, 3, 0] rfl) (by omega)
  have J_36 : ∀ (mi : Nat → Int32) (ma : Nat → Nat → Int32) (H : Heap) (locs : List Loc), va_P D vwCl (mw cI cZ h0 mq mi ma) H → va_D A (mw cI cZ h0 mq mi ma) → va_S A s.heap H locs → MB mi ma → (∀ k, k ∉ ([17, 18, 19] : List Nat) → mi k = mi0 k) → (∀ k, k ∉ ([40, 37, 20, 21, 22, 23, 24, 25] : List Nat) → ma k = ma0 k) → RES = x_answer_36 f pb mi ma → (DA ph (cl + 1) (mi 4) (mi 10) (mi 11) (mi 17) (mi 18) (mi 19) (ma 20) (ma 40) (ma 41) ∧ (mi 18).toInt < 6000 ∧ f.toInt < (mi 32).toInt ∧ (mi 10).toInt ≤ (mi 11).toInt ∧ (mi 11).toInt ≤ (mi 10).toInt + 1002) → ∀ (ls : Array Slot), lv_has ls 4 [(0, .ref h0), (1, .int f), (2, .int pb)] → W p l e ({ frames := 1, cells := 0, slots := 0, locals := 25 }) s m #[(.ref h0 : Value), (.int f : Value), (.int pb : Value)] below meth c H locs 0 0 QP (F0 m 36 ls []) := by
    intro mi ma H locs hP hD hS hI hFI hFA hE hv ls hl
    have hfN : f.toNatClampNeg < 4 := in_lt (vpi_of (n := 4) hf0 (by omega))
    have hle := MB_le2n hI f.toNatClampNeg hfN
    have hlh := MB_le2h hI f.toNatClampNeg hfN
    rw [x_answer_36] at hE
    refine lv_aload_n hx hb dX11_answer_36 rfl (lv_at hl 0 rfl) ?_
    refine lv_aload_n hx hb dX11_answer_37 rfl (lv_at hl 0 rfl) ?_
    refine va_get (D := D) (ci := 11) (v := .int (mi 17)) (C := RX11) (T := TX11) (N := 74) hx hb ha inlX11 hown hK hP 0 mw_at0 rfl 17 (by decide) (ha _ kf_X11_271) (fun _ h9 => h9) rfl dX11_answer_38 ?_
    refine lv_topi (fun x_37 ex_37 => ?_)
    have hE := bd_at ex_37 hE
    have u_x_37 := congrArg Int32.toInt ex_37
    have r_x_37 := MB_ackFirst hI
    rw [← ex_37] at r_x_37
    refine lv_aload_n hx hb dX11_answer_41 rfl (lv_at hl 0 rfl) ?_
    refine va_get (D := D) (ci := 11) (v := .int (mi 18)) (C := RX11) (T := TX11) (N := 74) hx hb ha inlX11 hown hK hP 0 mw_at0 rfl 18 (by decide) (ha _ kf_X11_268) (fun _ h9 => h9) rfl dX11_answer_42 ?_
    refine lv_topi (fun x_38 ex_38 => ?_)
    have hE := bd_at ex_38 hE
    have u_x_38 := congrArg Int32.toInt ex_38
    have r_x_38 := MB_ackEnd hI
    rw [← ex_38] at r_x_38
    refine lv_icmp_ge (tgt := 82) hx hb dX11_answer_45 (by decide) (fun c_39 => ?_) (fun c_39 => ?_)
    · have t_c_39 := Int32.le_iff_toInt_le.mp c_39
      have hE := hE.trans (if_pos c_39)
      refine lv_iconst (v := 0) hx hb dX11_answer_82 (by decide) ?_
      refine va_put (D := D) (ci := 11) (v := .int 0) (ty := .boolean) (C := RX11) (T := TX11) (N := 74) hx hb ha inlX11 tyX11 tyX11_ok nmX11 hown hK hP hD hS 0 mw_at0 rfl 19 (by decide) (ha _ kf_X11_277) (fun _ h9 => h9) rfl (by decide +kernel) rfl rfl (Nat.le_of_ble_eq_true rfl) dX11_answer_83 (fun H locs hP hD hS => ?_)
      have hP : va_P D vwCl (mw cI cZ h0 mq (upd mi 19 (0 : Int32)) ma) H := mwP_19 hP
      have hD : va_D A (mw cI cZ h0 mq (upd mi 19 (0 : Int32)) ma) := mwD_19 hD
      generalize hmi_40 : upd mi 19 (0 : Int32) = mi_40 at hP hD
      have hI : MB mi_40 ma := by rw [← hmi_40]; exact MBi_ackMixed hI
      have hFI : ∀ k, k ∉ ([17, 18, 19] : List Nat) → mi_40 k = mi0 k := fun k hk => by rw [← hmi_40]; exact (if_neg (fun e => hk (by rw [e]; decide))).trans (hFI k hk)
      have hE := bs_at hmi_40 hE
      exact J_86 mi_40 ma  _ _ hP hD hS hI hFI hFA hE (by rw [← hmi_40]; exact ⟨⟨mi 19, hv.1, fun _ h2 => by have h3 : (mi 17).toInt < (mi 18).toInt := h2; exfalso; omega⟩, hv.2⟩) _ (lv_sub hl [0, 1, 2] rfl)
    · have t_c_39 := Int32.lt_iff_toInt_lt.mp (Int32.not_le.mp c_39)
      have hE := hE.trans (if_neg c_39)
      refine lv_aload_n hx hb dX11_answer_48 rfl (lv_at hl 0 rfl) ?_
      refine va_get (D := D) (ci := 11) (v := .int (mi 19)) (C := RX11) (T := TX11) (N := 74) hx hb ha inlX11 hown hK hP 0 mw_at0 rfl 19 (by decide) (ha _ kf_X11_277) (fun _ h9 => h9) rfl dX11_answer_49 ?_
      refine lv_topi (fun x_41 ex_41 => ?_)
      have hE := bd_at ex_41 hE
      have u_x_41 := congrArg Int32.toInt ex_41
      refine lv_if_ne (tgt := 78) hx hb dX11_answer_52 (by decide) (fun c_42 => ?_) (fun c_42 => ?_)
      · have t_c_42 := mt Int32.toInt_inj.mp c_42
        have hE := hE.trans (if_neg c_42)
        refine lv_iconst (v := 1) hx hb dX11_answer_78 (by decide) ?_
        refine lv_goto (tgt := 83) hx hb dX11_answer_79 (by decide) ?_
        refine va_put (D := D) (ci := 11) (v := .int 1) (ty := .boolean) (C := RX11) (T := TX11) (N := 74) hx hb ha inlX11 tyX11 tyX11_ok nmX11 hown hK hP hD hS 0 mw_at0 rfl 19 (by decide) (ha _ kf_X11_277) (fun _ h9 => h9) rfl (by decide +kernel) rfl rfl (Nat.le_of_ble_eq_true rfl) dX11_answer_83 (fun H locs hP hD hS => ?_)
        have hP : va_P D vwCl (mw cI cZ h0 mq (upd mi 19 (1 : Int32)) ma) H := mwP_19 hP
        have hD : va_D A (mw cI cZ h0 mq (upd mi 19 (1 : Int32)) ma) := mwD_19 hD
        generalize hmi_43 : upd mi 19 (1 : Int32) = mi_43 at hP hD
        have hI : MB mi_43 ma := by rw [← hmi_43]; exact MBi_ackMixed hI
        have hFI : ∀ k, k ∉ ([17, 18, 19] : List Nat) → mi_43 k = mi0 k := fun k hk => by rw [← hmi_43]; exact (if_neg (fun e => hk (by rw [e]; decide))).trans (hFI k hk)
        have hE := bs_at hmi_43 hE
        exact J_86 mi_43 ma  _ _ hP hD hS hI hFI hFA hE (by rw [← hmi_43]; exact ⟨⟨mi 19, hv.1, fun h1 _ => absurd (show (1 : Int32) = 0 from h1) (by decide)⟩, hv.2⟩) _ (lv_sub hl [0, 1, 2] rfl)
      · have t_c_42 := congrArg Int32.toInt c_42
        have hE := hE.trans (if_pos c_42)
        refine lv_aload_n hx hb dX11_answer_55 rfl (lv_at hl 0 rfl) ?_
        refine va_get (D := D) (ci := 11) (v := .ref (mq 20)) (C := RX11) (T := TX11) (N := 74) hx hb ha inlX11 hown hK hP 0 mw_at0 rfl 20 (by decide) (ha _ kf_X11_45) (fun _ h9 => h9) rfl dX11_answer_56 ?_
        refine lv_aload_n hx hb dX11_answer_59 rfl (lv_at hl 0 rfl) ?_
        refine va_get (D := D) (ci := 11) (v := .int (mi 18)) (C := RX11) (T := TX11) (N := 74) hx hb ha inlX11 hown hK hP 0 mw_at0 rfl 18 (by decide) (ha _ kf_X11_268) (fun _ h9 => h9) rfl dX11_answer_60 ?_
        refine lv_topi (fun x_44 ex_44 => ?_)
        have hE := bd_at ex_44 hE
        have u_x_44 := congrArg Int32.toInt ex_44
        have r_x_44 := MB_ackEnd hI
        rw [← ex_44] at r_x_44
        refine lv_iconst (v := 1) hx hb dX11_answer_63 (by decide) ?_
        refine lv_isub hx hb dX11_answer_64 ?_
        refine lv_topi (fun x_45 ex_45 => ?_)
        have hE := bd_at ex_45 hE
        try have t_x_45 := ti_sub ex_45 (by omega) (by omega)
        have hin_46 : vp_in x_45 6000 := vpi_of (by omega) (by omega)
        refine va_iald hx hb hK hP 8 0 mw_at20 rfl hin_46 dX11_answer_65 ?_
        refine lv_topi (fun x_47 ex_47 => ?_)
        have hE := bd_at ex_47 hE
        have u_x_47 := congrArg Int32.toInt ex_47
        refine lv_aload_n hx hb dX11_answer_66 rfl (lv_at hl 0 rfl) ?_
        refine va_get (D := D) (ci := 11) (v := .int (mi 4)) (C := RX11) (T := TX11) (N := 74) hx hb ha inlX11 hown hK hP 0 mw_at0 rfl 4 (by decide) (ha _ kf_X11_207) (fun _ h9 => h9) rfl dX11_answer_67 ?_
        refine lv_topi (fun x_48 ex_48 => ?_)
        have hE := bd_at ex_48 hE
        have u_x_48 := congrArg Int32.toInt ex_48
        have r_x_48 := MB_tick hI
        rw [← ex_48] at r_x_48
        refine lv_aload_n hx hb dX11_answer_70 rfl (lv_at hl 0 rfl) ?_
        refine va_get (D := D) (ci := 11) (v := .int (mi 3)) (C := RX11) (T := TX11) (N := 74) hx hb ha inlX11 hown hK hP 0 mw_at0 rfl 3 (by decide) (ha _ kf_X11_19) (fun _ h9 => h9) rfl dX11_answer_71 ?_
        refine lv_topi (fun x_49 ex_49 => ?_)
        have hE := bd_at ex_49 hE
        have u_x_49 := congrArg Int32.toInt ex_49
        have r_x_49 := MB_back hI
        rw [← ex_49] at r_x_49
        refine lv_iadd hx hb dX11_answer_74 ?_
        refine lv_topi (fun x_50 ex_50 => ?_)
        have hE := bd_at ex_50 hE
        try have t_x_50 := ti_add ex_50 (by omega) (by omega)
        refine lv_icmp_le (tgt := 82) hx hb dX11_answer_75 (by decide) (fun c_51 => ?_) (fun c_51 => ?_)
        · have t_c_51 := Int32.le_iff_toInt_le.mp c_51
          have hE := hE.trans (if_pos c_51)
          refine lv_iconst (v := 0) hx hb dX11_answer_82 (by decide) ?_
          refine va_put (D := D) (ci := 11) (v := .int 0) (ty := .boolean) (C := RX11) (T := TX11) (N := 74) hx hb ha inlX11 tyX11 tyX11_ok nmX11 hown hK hP hD hS 0 mw_at0 rfl 19 (by decide) (ha _ kf_X11_277) (fun _ h9 => h9) rfl (by decide +kernel) rfl rfl (Nat.le_of_ble_eq_true rfl) dX11_answer_83 (fun H locs hP hD hS => ?_)
          have hP : va_P D vwCl (mw cI cZ h0 mq (upd mi 19 (0 : Int32)) ma) H := mwP_19 hP
          have hD : va_D A (mw cI cZ h0 mq (upd mi 19 (0 : Int32)) ma) := mwD_19 hD
          generalize hmi_52 : upd mi 19 (0 : Int32) = mi_52 at hP hD
          have hI : MB mi_52 ma := by rw [← hmi_52]; exact MBi_ackMixed hI
          have hFI : ∀ k, k ∉ ([17, 18, 19] : List Nat) → mi_52 k = mi0 k := fun k hk => by rw [← hmi_52]; exact (if_neg (fun e => hk (by rw [e]; decide))).trans (hFI k hk)
          have hE := bs_at hmi_52 hE
          exact J_86 mi_52 ma  _ _ hP hD hS hI hFI hFA hE (by rw [← hmi_52]; exact ⟨⟨mi 19, hv.1, fun _ _ => ⟨ex_41.symm.trans c_42, fun k hk => by have hk2 : (k : Int) = (mi 18).toInt - 1 := hk; have hk3 := cl_toInt (i := x_45) (by omega); show (ma 20 k).toInt ≤ (mi 4).toInt + (mi 3).toInt; rw [show k = x_45.toNatClampNeg by omega, ← ex_47]; omega⟩⟩, hv.2⟩) _ (lv_sub hl [0, 1, 2] rfl)
        · have t_c_51 := Int32.lt_iff_toInt_lt.mp (Int32.not_le.mp c_51)
          have hE := hE.trans (if_neg c_51)
          refine lv_iconst (v := 1) hx hb dX11_answer_78 (by decide) ?_
          refine lv_goto (tgt := 83) hx hb dX11_answer_79 (by decide) ?_
          refine va_put (D := D) (ci := 11) (v := .int 1) (ty := .boolean) (C := RX11) (T := TX11) (N := 74) hx hb ha inlX11 tyX11 tyX11_ok nmX11 hown hK hP hD hS 0 mw_at0 rfl 19 (by decide) (ha _ kf_X11_277) (fun _ h9 => h9) rfl (by decide +kernel) rfl rfl (Nat.le_of_ble_eq_true rfl) dX11_answer_83 (fun H locs hP hD hS => ?_)
          have hP : va_P D vwCl (mw cI cZ h0 mq (upd mi 19 (1 : Int32)) ma) H := mwP_19 hP
          have hD : va_D A (mw cI cZ h0 mq (upd mi 19 (1 : Int32)) ma) := mwD_19 hD
          generalize hmi_53 : upd mi 19 (1 : Int32) = mi_53 at hP hD
          have hI : MB mi_53 ma := by rw [← hmi_53]; exact MBi_ackMixed hI
          have hFI : ∀ k, k ∉ ([17, 18, 19] : List Nat) → mi_53 k = mi0 k := fun k hk => by rw [← hmi_53]; exact (if_neg (fun e => hk (by rw [e]; decide))).trans (hFI k hk)
          have hE := bs_at hmi_53 hE
          exact J_86 mi_53 ma  _ _ hP hD hS hI hFI hFA hE (by rw [← hmi_53]; exact ⟨⟨mi 19, hv.1, fun h1 _ => absurd (show (1 : Int32) = 0 from h1) (by decide)⟩, hv.2⟩) _ (lv_sub hl [0, 1, 2] rfl)
  -- from the entry
  rw [hQP] at J_36
  rw [hQP] at J_86
  rw [hQP] at J_156
  have hE := hRES
  unfold x_answer at hE
  have hE := ax_at (⟨hI, ⟨hf0, hff⟩, hw1, _, _, hph, by omega, hU⟩) hE
  refine lv_aload_n hx hb dX11_answer_0 rfl (lv_at hl 0 rfl) ?_
  refine va_get (D := D) (ci := 11) (v := .ref (mq 40)) (C := RX11) (T := TX11) (N := 74) hx hb ha inlX11 hown hK hP 0 mw_at0 rfl 40 (by decide) (ha _ kf_X11_88) (fun _ h9 => h9) rfl dX11_answer_1 ?_
  refine lv_iload_n hx hb dX11_answer_4 rfl (lv_at hl 1 rfl) ?_
  refine lv_iconst (v := (-1)) hx hb dX11_answer_5 (by decide) ?_
  have hin_54 : vp_in f 4 := vpi_of (by omega) (by omega)
  refine va_iast hx hb hK hP hD hS 22 0 mw_at40 rfl hin_54 dX11_answer_6 (fun H locs hP hD hS => ?_)
  have hP : va_P D vwCl (mw cI cZ h0 mq mi (va_up ma 40 (upd (ma 40) f.toNatClampNeg ((-1) : Int32)))) H := mwP_40 hP
  have hD : va_D A (mw cI cZ h0 mq mi (va_up ma 40 (upd (ma 40) f.toNatClampNeg ((-1) : Int32)))) := mwD_40 hD
  generalize hma_55 : va_up ma 40 (upd (ma 40) f.toNatClampNeg ((-1) : Int32)) = ma_55 at hP hD
  have hI : MB mi ma_55 := by rw [← hma_55]; exact MBa_owed hI
  have hFA : ∀ k, k ∉ ([40, 37, 20, 21, 22, 23, 24, 25] : List Nat) → ma_55 k = ma0 k := fun k hk => by rw [← hma_55]; exact (va_up_ne _ _ (fun e => hk (by rw [e]; decide))).trans (hFA k hk)
  have hE := bs_at hma_55 hE
  have o20 : ma_55 20 = ma 20 := mu_ne (k := 40) (j := 20) hma_55 (by decide)
  have o41 : ma_55 41 = ma 41 := mu_ne (k := 40) (j := 41) hma_55 (by decide)
  have o40 : ma_55 40 = upd (ma 40) f.toNatClampNeg (-1) := mu_eq hma_55
  have hU1 : DA ph (cl + 1) (mi 4) (mi 10) (mi 11) (mi 17) (mi 18) (mi 19) (ma_55 20) (ma_55 40) (ma_55 41) := by rw [o20, o40, o41]; exact hU
  refine lv_aload_n hx hb dX11_answer_7 rfl (lv_at hl 0 rfl) ?_
  refine va_get (D := D) (ci := 11) (v := .ref (mq 37)) (C := RX11) (T := TX11) (N := 74) hx hb ha inlX11 hown hK hP 0 mw_at0 rfl 37 (by decide) (ha _ kf_X11_79) (fun _ h9 => h9) rfl dX11_answer_8 ?_
  refine lv_iload_n hx hb dX11_answer_11 rfl (lv_at hl 1 rfl) ?_
  refine lv_dup2_11 hx hb dX11_answer_12 rfl rfl ?_
  have hin_56 : vp_in f 4 := vpi_of (by omega) (by omega)
  refine va_iald hx hb hK hP 19 0 mw_at37 rfl hin_56 dX11_answer_13 ?_
  refine lv_topi (fun x_57 ex_57 => ?_)
  have hE := bd_at ex_57 hE
  have u_x_57 := congrArg Int32.toInt ex_57
  refine lv_iconst (v := 1) hx hb dX11_answer_14 (by decide) ?_
  refine lv_iadd hx hb dX11_answer_15 ?_
  refine lv_topi (fun x_58 ex_58 => ?_)
  have hE := bd_at ex_58 hE
  have hin_59 : vp_in f 4 := vpi_of (by omega) (by omega)
  refine va_iast hx hb hK hP hD hS 19 0 mw_at37 rfl hin_59 dX11_answer_16 (fun H locs hP hD hS => ?_)
  have hP : va_P D vwCl (mw cI cZ h0 mq mi (va_up ma_55 37 (upd (ma_55 37) f.toNatClampNeg x_58))) H := mwP_37 hP
  have hD : va_D A (mw cI cZ h0 mq mi (va_up ma_55 37 (upd (ma_55 37) f.toNatClampNeg x_58))) := mwD_37 hD
  generalize hma_60 : va_up ma_55 37 (upd (ma_55 37) f.toNatClampNeg x_58) = ma_60 at hP hD
  have hI : MB mi ma_60 := by rw [← hma_60]; exact MBa_acksSent hI
  have hFA : ∀ k, k ∉ ([40, 37, 20, 21, 22, 23, 24, 25] : List Nat) → ma_60 k = ma0 k := fun k hk => by rw [← hma_60]; exact (va_up_ne _ _ (fun e => hk (by rw [e]; decide))).trans (hFA k hk)
  have hE := bs_at hma_60 hE
  have hU2 : DA ph (cl + 1) (mi 4) (mi 10) (mi 11) (mi 17) (mi 18) (mi 19) (ma_60 20) (ma_60 40) (ma_60 41) := by rw [← hma_60]; exact hU1
  have y3 := MB_ackFirst hI
  have y4 := MB_ackEnd hI
  have y5 := da_len hU2 y3.1 hph (by omega) (by omega)
  refine lv_aload_n hx hb dX11_answer_17 rfl (lv_at hl 0 rfl) ?_
  refine va_get (D := D) (ci := 11) (v := .int (mi 18)) (C := RX11) (T := TX11) (N := 74) hx hb ha inlX11 hown hK hP 0 mw_at0 rfl 18 (by decide) (ha _ kf_X11_268) (fun _ h9 => h9) rfl dX11_answer_18 ?_
  refine lv_topi (fun x_61 ex_61 => ?_)
  have hE := bd_at ex_61 hE
  have u_x_61 := congrArg Int32.toInt ex_61
  have r_x_61 := MB_ackEnd hI
  rw [← ex_61] at r_x_61
  refine lv_sipush (v := 6000) hx hb dX11_answer_21 (by decide) ?_
  refine lv_icmp_ne (tgt := 36) hx hb dX11_answer_24 (by decide) (fun c_62 => ?_) (fun c_62 => ?_)
  · have t_c_62 := mt Int32.toInt_inj.mp c_62
    have hE := hE.trans (if_neg c_62)
    exact J_36 mi ma_60  _ _ hP hD hS hI hFI hFA hE ⟨hU2, by omega, by omega, by omega, by omega⟩ _ (lv_sub hl [0, 1, 2] rfl)
  · have t_c_62 := congrArg Int32.toInt c_62
    have hE := hE.trans (if_pos c_62)
    refine lv_aload_n hx hb dX11_answer_27 rfl (lv_at hl 0 rfl) ?_
    refine lv_aload_n hx hb dX11_answer_28 rfl (lv_at hl 0 rfl) ?_
    refine va_get (D := D) (ci := 11) (v := .int (mi 17)) (C := RX11) (T := TX11) (N := 74) hx hb ha inlX11 hown hK hP 0 mw_at0 rfl 17 (by decide) (ha _ kf_X11_271) (fun _ h9 => h9) rfl dX11_answer_29 ?_
    refine lv_topi (fun x_63 ex_63 => ?_)
    have hE := bd_at ex_63 hE
    have u_x_63 := congrArg Int32.toInt ex_63
    have r_x_63 := MB_ackFirst hI
    rw [← ex_63] at r_x_63
    refine lv_iconst (v := 0) hx hb dX11_answer_32 (by decide) ?_
    have hFc := va_freeW hD hS hA
    refine va_callv (va_runV (As := [.int x_63, .int 0]) (rest := []) ⟨hx, hb, hml, hown, ha⟩ (m_acksDownF l D cI cJ cZ cO _ h0 mq mi ma_60 ph cl x_63 hI ex_63 (by omega) hU2.1) (cwV 2 ha (gaV kl_X11_274 km_X11_acksDown ks_X11_acksDown kz_X11 kd_X11_acksDown) rfl rfl rfl (by decide +kernel) ⟨Nat.le_of_ble_eq_true rfl, Nat.le_of_ble_eq_true rfl⟩) ⟨pw_blind, va_recv hK hP (ci := 11) (q0 := 0) rfl rfl, fun U hU hW => ⟨rfl, pw_start hU hW hP hK hD hN⟩⟩ rfl rfl hl.1 rfl (lv_room (Nat.le_of_ble_eq_true rfl)) dX11_answer_33 ⟨Nat.le_of_ble_eq_true rfl, Nat.le_of_ble_eq_true rfl⟩) hS (fun q _ h => hFc q h) hFc (fun u t H1 locs ht hvm hw hB hz1 hk1 hS => ?_)
    obtain ⟨mi_65, ma_66, ⟨hf_67, hX1, hX2⟩, hP, hK1, hD1⟩ := hB
    have hE := bc_atv hX1 hX2 hE
    rw [ht] at hP
    have hD := hD1.weaken (fun k q _ h => hFc q.1 h)
    clear hD1
    generalize H1 = H at hP hS ⊢
    refine W.widen (k := 0) (n := 0) (Nat.le_refl _) (Nat.le_refl _) ?_
    have hI := hf_67.1
    have hFI : ∀ k, k ∉ ([17, 18, 19] : List Nat) → mi_65 k = mi0 k := fun k hk => (hf_67.2.1 k (fun h => hk (by revert h; exact sub_of (by decide) k))).trans (hFI k hk)
    have hFA : ∀ k, k ∉ ([40, 37, 20, 21, 22, 23, 24, 25] : List Nat) → ma_66 k = ma0 k := fun k hk => (hf_67.2.2.1 k (fun h => hk (by revert h; exact sub_of (by decide) k))).trans (hFA k hk)
    obtain ⟨g1, g2, g3⟩ := hf_67.2.2.2
    have g32 := congrArg Int32.toInt (hf_67.2.1 32 (by decide))
    have g10 := congrArg Int32.toInt (hf_67.2.1 10 (by decide))
    have g11 := congrArg Int32.toInt (hf_67.2.1 11 (by decide))
    have hU3 : DA ph (cl + 1) (mi_65 4) (mi_65 10) (mi_65 11) (mi_65 17) (mi_65 18) (mi_65 19) (ma_66 20) (ma_66 40) (ma_66 41) := by
      rw [hf_67.2.1 4 (by decide), hf_67.2.1 10 (by decide), hf_67.2.1 11 (by decide), hf_67.2.1 19 (by decide), hf_67.2.2.1 40 (by decide), hf_67.2.2.1 41 (by decide)]
      exact da_due hU2 y3.1 g1 g2 g3
    exact J_36 mi_65 ma_66  _ _ hP hD hS hI hFI hFA hE ⟨hU3, by omega, by omega, by omega, by omega⟩ _ (lv_sub hl [0, 1, 2] rfl)

theorem chc_off {g : Nat → Int32} {i : Nat} (hi : i < 4) (hn : ¬ g i = 0) : chc (upd g i (vp_nar .boolean 0)) + 1 ≤ chc g := by
  have e : ∀ j, upd g i (vp_nar .boolean 0) j = if j = i then (vp_nar .boolean 0) else g j := fun _ => rfl
  have z : ch1 (vp_nar .boolean 0) = 0 := by decide
  have q : ch1 (g i) = 1 := by unfold ch1; rw [if_neg hn]
  unfold chc
  rw [e 0, e 1, e 2, e 3]
  have a0 := ch1_le (g 0)
  have a1 := ch1_le (g 1)
  have a2 := ch1_le (g 2)
  have a3 := ch1_le (g 3)
  rcases (by omega : i = 0 ∨ i = 1 ∨ i = 2 ∨ i = 3) with rfl | rfl | rfl | rfl <;> simp only [] <;> simp [z] <;> omega
theorem owc_off {g : Nat → Int32} {i : Nat} (hi : i < 4) (hn : ¬ g i = -1) : owc (upd g i (-1)) + 1 ≤ owc g := by
  have e : ∀ j, upd g i (-1) j = if j = i then (-1) else g j := fun _ => rfl
  have z : ow1 (-1) = 0 := by decide
  have q : ow1 (g i) = 1 := by unfold ow1; rw [if_neg hn]
  unfold owc
  rw [e 0, e 1, e 2, e 3]
  have a0 := ow1_le (g 0)
  have a1 := ow1_le (g 1)
  have a2 := ow1_le (g 2)
  have a3 := ow1_le (g 3)
  rcases (by omega : i = 0 ∨ i = 1 ∨ i = 2 ∨ i = 3) with rfl | rfl | rfl | rfl <;> simp only [] <;> simp [z] <;> omega

set_option maxRecDepth 100000 in
noncomputable def x_answers_43 : Nat → (Nat → Int32) → (Nat → Nat → Int32) → Int32 → (Option XT)
  | 0, mi, ma, _ => none
  | fu + 1, mi, ma, i1 => bd (mi 32) (fun v1 => (if v1 ≤ i1 then some (mi, ma, 0) else bd (ma 40 i1.toNatClampNeg) (fun v2 => bd (mi 4) (fun v3 => (if v2 = v3 then bo (x_answer i1 (1 : Int32) mi ma) (fun m5 a6 _ => bd (i1 + 1) (fun v8 => x_answers_43 fu m5 a6 v8)) else bd (i1 + 1) (fun v4 => x_answers_43 fu mi ma v4))))))
set_option maxRecDepth 100000 in
noncomputable def x_answers_2 : Nat → (Nat → Int32) → (Nat → Nat → Int32) → Int32 → (Option XT)
  | 0, mi, ma, _ => none
  | fu + 1, mi, ma, i1 => bd (mi 32) (fun v9 => (if v9 ≤ i1 then x_answers_43 5 mi ma (0 : Int32) else bd (ma 41 i1.toNatClampNeg) (fun v10 => (if v10 = (0 : Int32) then bd (i1 + 1) (fun v16 => x_answers_2 fu mi ma v16) else bd (va_up ma 41 (upd (ma 41) i1.toNatClampNeg (vp_nar .boolean (0 : Int32)))) (fun a11 => bo (x_answer i1 (0 : Int32) mi a11) (fun m12 a13 _ => bd (i1 + 1) (fun v15 => x_answers_2 fu m12 a13 v15)))))))
set_option maxRecDepth 100000 in
noncomputable def x_answers (mi : Nat → Int32) (ma : Nat → Nat → Int32) : (Option XT) := ax (MB mi ma ∧ ∃ (ph : Nat) (cl : Int), DA ph cl (mi 4) (mi 10) (mi 11) (mi 17) (mi 18) (mi 19) (ma 20) (ma 40) (ma 41)) (x_answers_2 5 mi ma (0 : Int32))
set_option maxHeartbeats 4000000 in
set_option maxRecDepth 100000 in
theorem m_answers (l : Launch) (D : va_G) (cI cJ cZ cO : ClassId) (sz : Nat) (h0 : Nat) (mq : Nat → Nat) (mi : Nat → Int32) (ma : Nat → Nat → Int32) (ph : Nat) (cl : Int) (hI : MB mi ma) (hph : ph ≤ 1) (hc1 : 0 ≤ cl) (hc2 : cl ≤ 512) (hw1 : (mi 10).toInt ≤ (mi 11).toInt) (hw2 : (mi 11).toInt ≤ (mi 10).toInt + 1002) (hU : DA ph cl (mi 4) (mi 10) (mi 11) (mi 17) (mi 18) (mi 19) (ma 20) (ma 40) (ma 41)) : Met l yX11_answers (wa yX11_answers cX11_answers 2 none) ({ frames := 2, cells := 0, slots := 0, locals := 48 }) (va_Pc [.ref h0] (pw_s D cI cJ cZ cO sz (mw cI cZ h0 mq mi ma))) (va_Qv (fun (_ : Unit) => True) (fun (_ : Unit) (t : State) => ∃ (mi2 : Nat → Int32) (ma2 : Nat → Nat → Int32), ((MB mi2 ma2 ∧ (∀ k, k ∉ ([17, 18, 19] : List Nat) → mi2 k = mi k) ∧ (∀ k, k ∉ ([41, 40, 37, 20, 21, 22, 23, 24, 25] : List Nat) → ma2 k = ma k) ∧ DA ph cl (mi2 4) (mi2 10) (mi2 11) (mi2 17) (mi2 18) (mi2 19) (ma2 20) (ma2 40) (ma2 41)) ∧ ∃ rr : Int32, (x_answers mi ma) = some (mi2, ma2, rr)) ∧ pw_t D cI cJ cZ cO (va_A (mw cI cZ h0 mq mi ma) sz) (mw cI cZ h0 mq mi2 ma2) t) (va_A (mw cI cZ h0 mq mi ma) sz)) 0 0 (va_A (mw cI cZ h0 mq mi ma) sz) := by
  refine Met.ofW (cc := cX11_answers) (maxL := 2) (ret := none) (by decide) rfl ?_
  intro p e s m args below meth c s₁ B hml hv
  obtain ⟨rfl, hsz, hP, hK, hD0, hN⟩ := hv
  have hx := B.exec
  have hb := B.bytes
  have hr := B.returns
  have hts := atoms_spec (ws := (wa yX11_answers cX11_answers 2 none)) B.pre
  have ha : ∀ w ∈ wsL_law, w.before _ s = true := fun w h => hts w (List.mem_cons_of_mem _ h)
  have hown : s.vm.findClass RX11 = some m.cls := findClass_of_methodNamed B.named
  have hlocks := B.notSynchronized
  subst hsz
  have hD := hD0.self (sz := s.heap.size)
  generalize hAe : va_A (mw cI cZ h0 mq mi ma) s.heap.size = A at hD ⊢
  have hA : ∀ q : Nat, s.heap.size ≤ q → A q := fun q h => by rw [← hAe]; exact Or.inr h
  have hS : va_S A s.heap s.heap [] := va_S.rf
  have hP : va_P D vwCl (mw cI cZ h0 mq mi ma) s.heap := hP
  have hl := lv_entry ([.ref h0]) (n := 2) (Nat.le_of_ble_eq_true rfl)
  rw [lg_entry_eq]
  generalize (lg_sl ([.ref h0]) ++ List.replicate (2 - (lg_sl ([.ref h0])).length) Slot.unset).toArray = ls at hl ⊢
  have hl : lv_has ls 2 [(0, .ref h0)] := hl
  have kc_m1 := tk_m1
  have kc_0 := tk_0
  have kc_1 := tk_1
  obtain ⟨mi0, hmi0⟩ : ∃ y, y = mi := ⟨_, rfl⟩
  obtain ⟨ma0, hma0⟩ : ∃ y, y = ma := ⟨_, rfl⟩
  have hFI : ∀ k, k ∉ ([17, 18, 19] : List Nat) → mi k = mi0 k := fun k _ => by rw [hmi0]
  have hFA : ∀ k, k ∉ ([41, 40, 37, 20, 21, 22, 23, 24, 25] : List Nat) → ma k = ma0 k := fun k _ => by rw [hma0]
  obtain ⟨QP, hQP⟩ : ∃ y : State → Prop, y = (MQ below (va_Qv (fun (_ : Unit) => True) (fun (_ : Unit) (t : State) => ∃ (mi2 : Nat → Int32) (ma2 : Nat → Nat → Int32), ((MB mi2 ma2 ∧ (∀ k, k ∉ ([17, 18, 19] : List Nat) → mi2 k = mi k) ∧ (∀ k, k ∉ ([41, 40, 37, 20, 21, 22, 23, 24, 25] : List Nat) → ma2 k = ma k) ∧ DA ph cl (mi2 4) (mi2 10) (mi2 11) (mi2 17) (mi2 18) (mi2 19) (ma2 20) (ma2 40) (ma2 41)) ∧ ∃ rr : Int32, (x_answers mi ma) = some (mi2, ma2, rr)) ∧ pw_t D cI cJ cZ cO A (mw cI cZ h0 mq mi2 ma2) t) A) #[(.ref h0 : Value)] s 0 0 A) := ⟨_, rfl⟩
  obtain ⟨RES, hRES⟩ : ∃ y, y = (x_answers mi ma) := ⟨_, rfl⟩
  have J_43 : ∀ (n_43 : Nat), ∀ (mi : Nat → Int32) (ma : Nat → Nat → Int32) (i1 : Int32) (H : Heap) (locs : List Loc), va_P D vwCl (mw cI cZ h0 mq mi ma) H → va_D A (mw cI cZ h0 mq mi ma) → va_S A s.heap H locs → MB mi ma → (∀ k, k ∉ ([17, 18, 19] : List Nat) → mi k = mi0 k) → (∀ k, k ∉ ([41, 40, 37, 20, 21, 22, 23, 24, 25] : List Nat) → ma k = ma0 k) → RES = x_answers_43 n_43 mi ma i1 → (DA ph cl (mi 4) (mi 10) (mi 11) (mi 17) (mi 18) (mi 19) (ma 20) (ma 40) (ma 41) ∧ 0 ≤ i1.toInt) → ∀ (ls : Array Slot), lv_has ls 2 [(0, .ref h0), (1, .int i1)] → ((4 - i1.toInt).toNat) < n_43 → W p l e ({ frames := 2, cells := 0, slots := 0, locals := 48 }) s m #[(.ref h0 : Value)] below meth c H locs 0 0 QP (F0 m 43 ls []) := by
    intro n_43
    induction n_43 with
    | zero => intros; exact absurd ‹_ < 0› (Nat.not_lt_zero _)
    | succ n_43 ih_43 =>
      intro mi ma i1 H locs hP hD hS hI hFI hFA hE hv ls hl hm
      rw [x_answers_43] at hE
      refine lv_iload_n hx hb dX11_answers_43 rfl (lv_at hl 1 rfl) ?_
      refine lv_aload_n hx hb dX11_answers_44 rfl (lv_at hl 0 rfl) ?_
      refine va_get (D := D) (ci := 11) (v := .int (mi 32)) (C := RX11) (T := TX11) (N := 74) hx hb ha inlX11 hown hK hP 0 mw_at0 rfl 32 (by decide) (ha _ kf_X11_191) (fun _ h9 => h9) rfl dX11_answers_45 ?_
      refine lv_topi (fun x_1 ex_1 => ?_)
      have hE := bd_at ex_1 hE
      have u_x_1 := congrArg Int32.toInt ex_1
      have r_x_1 := MB_flows hI
      rw [← ex_1] at r_x_1
      refine lv_icmp_ge (tgt := 76) hx hb dX11_answers_48 (by decide) (fun c_2 => ?_) (fun c_2 => ?_)
      · have t_c_2 := Int32.le_iff_toInt_le.mp c_2
        have hE := hE.trans (if_pos c_2)
        rw [hQP]
        exact W.vret hx hb hr (fun t ht hW => ⟨⟨(), rfl, trivial, ⟨mi, ma, ⟨⟨hI, fun k hk => (hFI k hk).trans (by rw [hmi0]), fun k hk => (hFA k hk).trans (by rw [hma0]), hv.1⟩, _, hRES.symm.trans hE⟩, by rw [ht]; exact hP, va_K.moved hW.alike hK, hD⟩⟩, hS.F ht⟩) hS.2.2 dX11_answers_76
      · have t_c_2 := Int32.lt_iff_toInt_lt.mp (Int32.not_le.mp c_2)
        have hE := hE.trans (if_neg c_2)
        refine lv_aload_n hx hb dX11_answers_51 rfl (lv_at hl 0 rfl) ?_
        refine va_get (D := D) (ci := 11) (v := .ref (mq 40)) (C := RX11) (T := TX11) (N := 74) hx hb ha inlX11 hown hK hP 0 mw_at0 rfl 40 (by decide) (ha _ kf_X11_88) (fun _ h9 => h9) rfl dX11_answers_52 ?_
        refine lv_iload_n hx hb dX11_answers_55 rfl (lv_at hl 1 rfl) ?_
        have hin_3 : vp_in i1 4 := vpi_of (by omega) (by omega)
        refine va_iald hx hb hK hP 22 0 mw_at40 rfl hin_3 dX11_answers_56 ?_
        refine lv_topi (fun x_4 ex_4 => ?_)
        have hE := bd_at ex_4 hE
        have u_x_4 := congrArg Int32.toInt ex_4
        refine lv_aload_n hx hb dX11_answers_57 rfl (lv_at hl 0 rfl) ?_
        refine va_get (D := D) (ci := 11) (v := .int (mi 4)) (C := RX11) (T := TX11) (N := 74) hx hb ha inlX11 hown hK hP 0 mw_at0 rfl 4 (by decide) (ha _ kf_X11_207) (fun _ h9 => h9) rfl dX11_answers_58 ?_
        refine lv_topi (fun x_5 ex_5 => ?_)
        have hE := bd_at ex_5 hE
        have u_x_5 := congrArg Int32.toInt ex_5
        have r_x_5 := MB_tick hI
        rw [← ex_5] at r_x_5
        refine lv_icmp_ne (tgt := 70) hx hb dX11_answers_61 (by decide) (fun c_6 => ?_) (fun c_6 => ?_)
        · have t_c_6 := mt Int32.toInt_inj.mp c_6
          have hE := hE.trans (if_neg c_6)
          obtain ⟨x_7, ex_7⟩ : ∃ y : Int32, y = i1 + 1 := ⟨_, rfl⟩
          have hE := bd_at ex_7 hE
          refine lv_iinc (v := x_7) (lv' := [(1, .int x_7), (0, .ref h0)]) hx hb dX11_answers_70 hl (k := 1) rfl (by rw [ex_7]; rfl) (by decide) rfl (fun ls hl => ?_)
          try have t_x_7 := ti_add ex_7 (by omega) (by omega)
          refine lv_goto (tgt := 43) hx hb dX11_answers_73 (by decide) ?_
          exact ih_43 mi ma x_7 _ _ hP hD hS hI hFI hFA hE ⟨hv.1, by omega⟩ _ (lv_sub hl [1, 0] rfl) (by omega)
        · have t_c_6 := congrArg Int32.toInt c_6
          have hE := hE.trans (if_pos c_6)
          have c9 : i1.toNatClampNeg < 4 := in_lt (vpi_of (n := 4) (by omega) (by omega))
          have n9 : ¬ ma 40 i1.toNatClampNeg = -1 := fun q => by have q8 := congrArg Int32.toInt (ex_4.trans q); omega
          have hA2 : DA ph (cl + 1) (mi 4) (mi 10) (mi 11) (mi 17) (mi 18) (mi 19) (ma 20) (upd (ma 40) i1.toNatClampNeg (-1)) (ma 41) := da_sw (ow := ma 40) (ch := ma 41) hv.1 (by have o8 := owc_off c9 n9; omega)
          refine lv_aload_n hx hb dX11_answers_64 rfl (lv_at hl 0 rfl) ?_
          refine lv_iload_n hx hb dX11_answers_65 rfl (lv_at hl 1 rfl) ?_
          refine lv_iconst (v := 1) hx hb dX11_answers_66 (by decide) ?_
          have hFc := va_freeW hD hS hA
          refine va_callv (va_runV (As := [.int i1, .int 1]) (rest := []) ⟨hx, hb, hml, hown, ha⟩ (m_answer l D cI cJ cZ cO _ h0 mq mi ma ph cl i1 1 hI (by omega) (by omega) (by omega) hph (by omega) hc2 (by rw [hFI 10 (by decide), hFI 11 (by decide), hmi0]; exact hw1) (by rw [hFI 10 (by decide), hFI 11 (by decide), hmi0]; exact hw2) hA2) (cwV 2 ha (gaV kl_X11_264 km_X11_answer ks_X11_answer kz_X11 kd_X11_answer) rfl rfl rfl (by decide +kernel) ⟨Nat.le_of_ble_eq_true rfl, Nat.le_of_ble_eq_true rfl⟩) ⟨pw_blind, va_recv hK hP (ci := 11) (q0 := 0) rfl rfl, fun U hU hW => ⟨rfl, pw_start hU hW hP hK hD hN⟩⟩ rfl rfl hl.1 rfl (lv_room (Nat.le_of_ble_eq_true rfl)) dX11_answers_67 ⟨Nat.le_of_ble_eq_true rfl, Nat.le_of_ble_eq_true rfl⟩) hS (fun q _ h => hFc q h) hFc (fun u t H1 locs ht hvm hw hB hz1 hk1 hS => ?_)
          obtain ⟨mi_9, ma_10, ⟨hf_11, rr_, hX⟩, hP, hK1, hD1⟩ := hB
          have hE := bo_at hX hE
          rw [ht] at hP
          have hD := hD1.weaken (fun k q _ h => hFc q.1 h)
          clear hD1
          generalize H1 = H at hP hS ⊢
          refine W.widen (k := 0) (n := 0) (Nat.le_refl _) (Nat.le_refl _) ?_
          have hI := hf_11.1
          have hFI : ∀ k, k ∉ ([17, 18, 19] : List Nat) → mi_9 k = mi0 k := fun k hk => (hf_11.2.1 k (fun h => hk (by revert h; exact sub_of (by decide) k))).trans (hFI k hk)
          have hFA : ∀ k, k ∉ ([41, 40, 37, 20, 21, 22, 23, 24, 25] : List Nat) → ma_10 k = ma0 k := fun k hk => (hf_11.2.2.1 k (fun h => hk (by revert h; exact sub_of (by decide) k))).trans (hFA k hk)
          obtain ⟨x_12, ex_12⟩ : ∃ y : Int32, y = i1 + 1 := ⟨_, rfl⟩
          have hE := bd_at ex_12 hE
          refine lv_iinc (v := x_12) (lv' := [(1, .int x_12), (0, .ref h0)]) hx hb dX11_answers_70 hl (k := 1) rfl (by rw [ex_12]; rfl) (by decide) rfl (fun ls hl => ?_)
          try have t_x_12 := ti_add ex_12 (by omega) (by omega)
          refine lv_goto (tgt := 43) hx hb dX11_answers_73 (by decide) ?_
          exact ih_43 mi_9 ma_10 x_12 _ _ hP hD hS hI hFI hFA hE ⟨hf_11.2.2.2, by omega⟩ _ (lv_sub hl [1, 0] rfl) (by omega)
  have J_2 : ∀ (n_2 : Nat), ∀ (mi : Nat → Int32) (ma : Nat → Nat → Int32) (i1 : Int32) (H : Heap) (locs : List Loc), va_P D vwCl (mw cI cZ h0 mq mi ma) H → va_D A (mw cI cZ h0 mq mi ma) → va_S A s.heap H locs → MB mi ma → (∀ k, k ∉ ([17, 18, 19] : List Nat) → mi k = mi0 k) → (∀ k, k ∉ ([41, 40, 37, 20, 21, 22, 23, 24, 25] : List Nat) → ma k = ma0 k) → RES = x_answers_2 n_2 mi ma i1 → (DA ph cl (mi 4) (mi 10) (mi 11) (mi 17) (mi 18) (mi 19) (ma 20) (ma 40) (ma 41) ∧ 0 ≤ i1.toInt) → ∀ (ls : Array Slot), lv_has ls 2 [(0, .ref h0), (1, .int i1)] → ((4 - i1.toInt).toNat) < n_2 → W p l e ({ frames := 2, cells := 0, slots := 0, locals := 48 }) s m #[(.ref h0 : Value)] below meth c H locs 0 0 QP (F0 m 2 ls []) := by
    intro n_2
    induction n_2 with
    | zero => intros; exact absurd ‹_ < 0› (Nat.not_lt_zero _)
    | succ n_2 ih_2 =>
      intro mi ma i1 H locs hP hD hS hI hFI hFA hE hv ls hl hm
      rw [x_answers_2] at hE
      refine lv_iload_n hx hb dX11_answers_2 rfl (lv_at hl 1 rfl) ?_
      refine lv_aload_n hx hb dX11_answers_3 rfl (lv_at hl 0 rfl) ?_
      refine va_get (D := D) (ci := 11) (v := .int (mi 32)) (C := RX11) (T := TX11) (N := 74) hx hb ha inlX11 hown hK hP 0 mw_at0 rfl 32 (by decide) (ha _ kf_X11_191) (fun _ h9 => h9) rfl dX11_answers_4 ?_
      refine lv_topi (fun x_13 ex_13 => ?_)
      have hE := bd_at ex_13 hE
      have u_x_13 := congrArg Int32.toInt ex_13
      have r_x_13 := MB_flows hI
      rw [← ex_13] at r_x_13
      refine lv_icmp_ge (tgt := 41) hx hb dX11_answers_7 (by decide) (fun c_14 => ?_) (fun c_14 => ?_)
      · have t_c_14 := Int32.le_iff_toInt_le.mp c_14
        have hE := hE.trans (if_pos c_14)
        refine lv_iconst (v := 0) hx hb dX11_answers_41 (by decide) ?_
        refine lv_istore_n (lv' := [(1, .int 0), (0, .ref h0)]) hx hb dX11_answers_42 rfl hl (by decide) rfl (fun ls hl => ?_)
        exact J_43 5 mi ma (0 : Int32) _ _ hP hD hS hI hFI hFA hE ⟨hv.1, by omega⟩ _ (lv_sub hl [1, 0] rfl) (by omega)
      · have t_c_14 := Int32.lt_iff_toInt_lt.mp (Int32.not_le.mp c_14)
        have hE := hE.trans (if_neg c_14)
        refine lv_aload_n hx hb dX11_answers_10 rfl (lv_at hl 0 rfl) ?_
        refine va_get (D := D) (ci := 11) (v := .ref (mq 41)) (C := RX11) (T := TX11) (N := 74) hx hb ha inlX11 hown hK hP 0 mw_at0 rfl 41 (by decide) (ha _ kf_X11_91) (fun _ h9 => h9) rfl dX11_answers_11 ?_
        refine lv_iload_n hx hb dX11_answers_14 rfl (lv_at hl 1 rfl) ?_
        have hin_15 : vp_in i1 4 := vpi_of (by omega) (by omega)
        refine va_zald hx hb hK hP 23 2 mw_at41 rfl hin_15 dX11_answers_15 ?_
        refine lv_topi (fun x_16 ex_16 => ?_)
        have hE := bd_at ex_16 hE
        have u_x_16 := congrArg Int32.toInt ex_16
        refine lv_if_ne (tgt := 22) hx hb dX11_answers_16 (by decide) (fun c_17 => ?_) (fun c_17 => ?_)
        · have t_c_17 := mt Int32.toInt_inj.mp c_17
          have hE := hE.trans (if_neg c_17)
          have c9 : i1.toNatClampNeg < 4 := in_lt (vpi_of (n := 4) (by omega) (by omega))
          have n9 : ¬ ma 41 i1.toNatClampNeg = 0 := fun q => c_17 (ex_16.trans q)
          refine lv_aload_n hx hb dX11_answers_22 rfl (lv_at hl 0 rfl) ?_
          refine va_get (D := D) (ci := 11) (v := .ref (mq 41)) (C := RX11) (T := TX11) (N := 74) hx hb ha inlX11 hown hK hP 0 mw_at0 rfl 41 (by decide) (ha _ kf_X11_91) (fun _ h9 => h9) rfl dX11_answers_23 ?_
          refine lv_iload_n hx hb dX11_answers_26 rfl (lv_at hl 1 rfl) ?_
          refine lv_iconst (v := 0) hx hb dX11_answers_27 (by decide) ?_
          have hin_18 : vp_in i1 4 := vpi_of (by omega) (by omega)
          refine va_zast hx hb hK hP hD hS 23 2 mw_at41 rfl hin_18 dX11_answers_28 (fun H locs hP hD hS => ?_)
          have hP : va_P D vwCl (mw cI cZ h0 mq mi (va_up ma 41 (upd (ma 41) i1.toNatClampNeg (vp_nar .boolean (0 : Int32))))) H := mwP_41 hP
          have hD : va_D A (mw cI cZ h0 mq mi (va_up ma 41 (upd (ma 41) i1.toNatClampNeg (vp_nar .boolean (0 : Int32))))) := mwD_41 hD
          generalize hma_19 : va_up ma 41 (upd (ma 41) i1.toNatClampNeg (vp_nar .boolean (0 : Int32))) = ma_19 at hP hD
          have hI : MB mi ma_19 := by rw [← hma_19]; exact MBa_changes hI
          have hFA : ∀ k, k ∉ ([41, 40, 37, 20, 21, 22, 23, 24, 25] : List Nat) → ma_19 k = ma0 k := fun k hk => by rw [← hma_19]; exact (va_up_ne _ _ (fun e => hk (by rw [e]; decide))).trans (hFA k hk)
          have hE := bs_at hma_19 hE
          have o20 : ma_19 20 = ma 20 := mu_ne (k := 41) (j := 20) hma_19 (by decide)
          have o40 : ma_19 40 = ma 40 := mu_ne (k := 41) (j := 40) hma_19 (by decide)
          have o41 : ma_19 41 = upd (ma 41) i1.toNatClampNeg (vp_nar .boolean 0) := mu_eq hma_19
          have hA2 : DA ph (cl + 1) (mi 4) (mi 10) (mi 11) (mi 17) (mi 18) (mi 19) (ma_19 20) (upd (ma_19 40) i1.toNatClampNeg (-1)) (ma_19 41) := by rw [o20, o40, o41]; exact da_sw (ow := ma 40) (ch := ma 41) hv.1 (by have o9 := owc_none (g := ma 40) (i := i1.toNatClampNeg); have o8 := chc_off c9 n9; omega)
          refine lv_aload_n hx hb dX11_answers_29 rfl (lv_at hl 0 rfl) ?_
          refine lv_iload_n hx hb dX11_answers_30 rfl (lv_at hl 1 rfl) ?_
          refine lv_iconst (v := 0) hx hb dX11_answers_31 (by decide) ?_
          have hFc := va_freeW hD hS hA
          refine va_callv (va_runV (As := [.int i1, .int 0]) (rest := []) ⟨hx, hb, hml, hown, ha⟩ (m_answer l D cI cJ cZ cO _ h0 mq mi ma_19 ph cl i1 0 hI (by omega) (by omega) (by omega) hph (by omega) hc2 (by rw [hFI 10 (by decide), hFI 11 (by decide), hmi0]; exact hw1) (by rw [hFI 10 (by decide), hFI 11 (by decide), hmi0]; exact hw2) hA2) (cwV 2 ha (gaV kl_X11_264 km_X11_answer ks_X11_answer kz_X11 kd_X11_answer) rfl rfl rfl (by decide +kernel) ⟨Nat.le_of_ble_eq_true rfl, Nat.le_of_ble_eq_true rfl⟩) ⟨pw_blind, va_recv hK hP (ci := 11) (q0 := 0) rfl rfl, fun U hU hW => ⟨rfl, pw_start hU hW hP hK hD hN⟩⟩ rfl rfl hl.1 rfl (lv_room (Nat.le_of_ble_eq_true rfl)) dX11_answers_32 ⟨Nat.le_of_ble_eq_true rfl, Nat.le_of_ble_eq_true rfl⟩) hS (fun q _ h => hFc q h) hFc (fun u t H1 locs ht hvm hw hB hz1 hk1 hS => ?_)
          obtain ⟨mi_21, ma_22, ⟨hf_23, rr_, hX⟩, hP, hK1, hD1⟩ := hB
          have hE := bo_at hX hE
          rw [ht] at hP
          have hD := hD1.weaken (fun k q _ h => hFc q.1 h)
          clear hD1
          generalize H1 = H at hP hS ⊢
          refine W.widen (k := 0) (n := 0) (Nat.le_refl _) (Nat.le_refl _) ?_
          have hI := hf_23.1
          have hFI : ∀ k, k ∉ ([17, 18, 19] : List Nat) → mi_21 k = mi0 k := fun k hk => (hf_23.2.1 k (fun h => hk (by revert h; exact sub_of (by decide) k))).trans (hFI k hk)
          have hFA : ∀ k, k ∉ ([41, 40, 37, 20, 21, 22, 23, 24, 25] : List Nat) → ma_22 k = ma0 k := fun k hk => (hf_23.2.2.1 k (fun h => hk (by revert h; exact sub_of (by decide) k))).trans (hFA k hk)
          obtain ⟨x_24, ex_24⟩ : ∃ y : Int32, y = i1 + 1 := ⟨_, rfl⟩
          have hE := bd_at ex_24 hE
          refine lv_iinc (v := x_24) (lv' := [(1, .int x_24), (0, .ref h0)]) hx hb dX11_answers_35 hl (k := 1) rfl (by rw [ex_24]; rfl) (by decide) rfl (fun ls hl => ?_)
          try have t_x_24 := ti_add ex_24 (by omega) (by omega)
          refine lv_goto (tgt := 2) hx hb dX11_answers_38 (by decide) ?_
          exact ih_2 mi_21 ma_22 x_24 _ _ hP hD hS hI hFI hFA hE ⟨hf_23.2.2.2, by omega⟩ _ (lv_sub hl [1, 0] rfl) (by omega)
        · have t_c_17 := congrArg Int32.toInt c_17
          have hE := hE.trans (if_pos c_17)
          refine lv_goto (tgt := 35) hx hb dX11_answers_19 (by decide) ?_
          obtain ⟨x_25, ex_25⟩ : ∃ y : Int32, y = i1 + 1 := ⟨_, rfl⟩
          have hE := bd_at ex_25 hE
          refine lv_iinc (v := x_25) (lv' := [(1, .int x_25), (0, .ref h0)]) hx hb dX11_answers_35 hl (k := 1) rfl (by rw [ex_25]; rfl) (by decide) rfl (fun ls hl => ?_)
          try have t_x_25 := ti_add ex_25 (by omega) (by omega)
          refine lv_goto (tgt := 2) hx hb dX11_answers_38 (by decide) ?_
          exact ih_2 mi ma x_25 _ _ hP hD hS hI hFI hFA hE ⟨hv.1, by omega⟩ _ (lv_sub hl [1, 0] rfl) (by omega)
  -- from the entry
  rw [hQP] at J_2
  rw [hQP] at J_43
  have hE := hRES
  unfold x_answers at hE
  have hE := ax_at (⟨hI, _, _, hU⟩) hE
  refine lv_iconst (v := 0) hx hb dX11_answers_0 (by decide) ?_
  refine lv_istore_n (lv' := [(1, .int 0), (0, .ref h0)]) hx hb dX11_answers_1 rfl hl (by decide) rfl (fun ls hl => ?_)
  exact J_2 5 mi ma (0 : Int32) _ _ hP hD hS hI hFI hFA hE ⟨hU, by omega⟩ _ (lv_sub hl [1, 0] rfl) (by omega)

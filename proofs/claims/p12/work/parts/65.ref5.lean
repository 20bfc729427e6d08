set_option maxRecDepth 100000 in
noncomputable def x_sends_0 (f : Int32) : Nat → (Nat → Int32) → (Nat → Nat → Int32) → (Option XT)
  | 0, mi, ma => none
  | fu + 1, mi, ma => ax (MB mi ma ∧ (0 ≤ f.toInt ∧ f.toInt < (mi 32).toInt)) (bc (x_out f mi ma) (fun m1 a2 v3 => bd (a2 47 f.toNatClampNeg) (fun v4 => bd (v4 / (1024 : Int32)) (fun v5 => (if v5 ≤ v3 then bd (a2 60 f.toNatClampNeg) (fun v6 => (if v6 = (0 : Int32) then bd (a2 45 f.toNatClampNeg) (fun v7 => bd (a2 44 f.toNatClampNeg) (fun v8 => (if v7 = v8 then bd (a2 45 f.toNatClampNeg) (fun v9 => bd (a2 43 f.toNatClampNeg) (fun v10 => (if v10 ≤ v9 then some (m1, a2, 0) else bd (a2 61 f.toNatClampNeg) (fun v11 => (if v11 = ((-1) : Int32) then bd (m1 4) (fun v12 => bd (a2 49 f.toNatClampNeg) (fun v13 => bd (v12 + v13) (fun v14 => bd (va_up a2 61 (upd (a2 61) f.toNatClampNeg v14)) (fun a15 => some (m1, a15, 0))))) else some (m1, a2, 0)))))) else some (m1, a2, 0)))) else some (m1, a2, 0))) else bd (a2 42 f.toNatClampNeg) (fun v16 => (if v16 = (3 : Int32) then bd (a2 54 f.toNatClampNeg) (fun v37 => (if v37 = (0 : Int32) then bc (x_mayNext f m1 a2) (fun m38 a39 v40 => (if v40 = (0 : Int32) then bd (a39 60 f.toNatClampNeg) (fun v48 => (if v48 = (0 : Int32) then bd (a39 45 f.toNatClampNeg) (fun v49 => bd (a39 44 f.toNatClampNeg) (fun v50 => (if v49 = v50 then bd (a39 45 f.toNatClampNeg) (fun v51 => bd (a39 43 f.toNatClampNeg) (fun v52 => (if v52 ≤ v51 then some (m38, a39, 0) else bd (a39 61 f.toNatClampNeg) (fun v53 => (if v53 = ((-1) : Int32) then bd (m38 4) (fun v54 => bd (a39 49 f.toNatClampNeg) (fun v55 => bd (v54 + v55) (fun v56 => bd (va_up a39 61 (upd (a39 61) f.toNatClampNeg v56)) (fun a57 => some (m38, a57, 0))))) else some (m38, a39, 0)))))) else some (m38, a39, 0)))) else some (m38, a39, 0))) else bd (a39 45 f.toNatClampNeg) (fun v41 => bc (x_sendsOne f v41 m38 a39) (fun m42 a43 _ => bd (a43 45 f.toNatClampNeg) (fun v45 => bd (v45 + (1 : Int32)) (fun v46 => bd (va_up a43 45 (upd (a43 45) f.toNatClampNeg v46)) (fun a47 => x_sends_0 f fu m42 a47))))))) else bd (m1 73) (fun v58 => (if v58 = ((-1) : Int32) then bc (x_mayNext f m1 a2) (fun m59 a60 v61 => (if v61 = (0 : Int32) then bd (a60 60 f.toNatClampNeg) (fun v69 => (if v69 = (0 : Int32) then bd (a60 45 f.toNatClampNeg) (fun v70 => bd (a60 44 f.toNatClampNeg) (fun v71 => (if v70 = v71 then bd (a60 45 f.toNatClampNeg) (fun v72 => bd (a60 43 f.toNatClampNeg) (fun v73 => (if v73 ≤ v72 then some (m59, a60, 0) else bd (a60 61 f.toNatClampNeg) (fun v74 => (if v74 = ((-1) : Int32) then bd (m59 4) (fun v75 => bd (a60 49 f.toNatClampNeg) (fun v76 => bd (v75 + v76) (fun v77 => bd (va_up a60 61 (upd (a60 61) f.toNatClampNeg v77)) (fun a78 => some (m59, a78, 0))))) else some (m59, a60, 0)))))) else some (m59, a60, 0)))) else some (m59, a60, 0))) else bd (a60 45 f.toNatClampNeg) (fun v62 => bc (x_sendsOne f v62 m59 a60) (fun m63 a64 _ => bd (a64 45 f.toNatClampNeg) (fun v66 => bd (v66 + (1 : Int32)) (fun v67 => bd (va_up a64 45 (upd (a64 45) f.toNatClampNeg v67)) (fun a68 => x_sends_0 f fu m63 a68))))))) else bd (m1 73) (fun v79 => bc (x_sendsAgain f v79 m1 a2) (fun m80 a81 _ => x_sends_0 f fu m80 a81)))))) else bc (x_mayNext f m1 a2) (fun m17 a18 v19 => (if v19 = (0 : Int32) then bd (a18 60 f.toNatClampNeg) (fun v27 => (if v27 = (0 : Int32) then bd (a18 45 f.toNatClampNeg) (fun v28 => bd (a18 44 f.toNatClampNeg) (fun v29 => (if v28 = v29 then bd (a18 45 f.toNatClampNeg) (fun v30 => bd (a18 43 f.toNatClampNeg) (fun v31 => (if v31 ≤ v30 then some (m17, a18, 0) else bd (a18 61 f.toNatClampNeg) (fun v32 => (if v32 = ((-1) : Int32) then bd (m17 4) (fun v33 => bd (a18 49 f.toNatClampNeg) (fun v34 => bd (v33 + v34) (fun v35 => bd (va_up a18 61 (upd (a18 61) f.toNatClampNeg v35)) (fun a36 => some (m17, a36, 0))))) else some (m17, a18, 0)))))) else some (m17, a18, 0)))) else some (m17, a18, 0))) else bd (a18 45 f.toNatClampNeg) (fun v20 => bc (x_sendsOne f v20 m17 a18) (fun m21 a22 _ => bd (a22 45 f.toNatClampNeg) (fun v24 => bd (v24 + (1 : Int32)) (fun v25 => bd (va_up a22 45 (upd (a22 45) f.toNatClampNeg v25)) (fun a26 => x_sends_0 f fu m21 a26))))))))))))))
set_option maxRecDepth 100000 in
noncomputable def x_sends (f : Int32) (mi : Nat → Int32) (ma : Nat → Nat → Int32) : (Option XT) := x_sends_0 f ((((ma 44 f.toNatClampNeg).toInt + 200 - (ma 45 f.toNatClampNeg).toInt).toNat + zc (ma 72) f.toNatClampNeg + 1)) mi ma
set_option maxHeartbeats 4000000 in
set_option maxRecDepth 100000 in
theorem m_sends (l : Launch) (D : va_G) (cI cJ cZ cO : ClassId) (sz : Nat) (h0 : Nat) (mq : Nat → Nat) (mi : Nat → Int32) (ma : Nat → Nat → Int32) (ph : Nat) (cl : Int) (f : Int32) (hI : MB mi ma) (hf0 : 0 ≤ f.toInt) (hf4 : f.toInt < 4) (hff : f.toInt < (mi 32).toInt) : Met l yX11_sends (wa yX11_sends cX11_sends 2 none) ({ frames := 3, cells := 0, slots := 0, locals := 69 }) (va_Pc [.ref h0, .int f] (pw_s D cI cJ cZ cO sz (mw cI cZ h0 mq mi ma))) (va_Qv (fun (_ : Unit) => True) (fun (_ : Unit) (t : State) => ∃ (mi2 : Nat → Int32) (ma2 : Nat → Nat → Int32), ((MB mi2 ma2 ∧ (∀ k, k ∉ ([26, 30, 28, 27, 6, 5, 73] : List Nat) → mi2 k = mi k) ∧ (∀ k, k ∉ ([31, 7, 8, 9, 59, 69, 46, 70, 61, 72, 45] : List Nat) → ma2 k = ma k)) ∧ ∃ rr : Int32, (x_sends f mi ma) = some (mi2, ma2, rr)) ∧ pw_t D cI cJ cZ cO (va_A (mw cI cZ h0 mq mi ma) sz) (mw cI cZ h0 mq mi2 ma2) t) (va_A (mw cI cZ h0 mq mi ma) sz)) 0 0 (va_A (mw cI cZ h0 mq mi ma) sz) := by
  refine Met.ofW (cc := cX11_sends) (maxL := 2) (ret := none) (by decide) rfl ?_
  intro p e s m args below meth c s₁ B hml hv
  obtain ⟨rfl, hsz, hP, hK, hD0, hN⟩ := hv
  have hx := B.exec
  have hb := B.bytes
  have hr := B.returns
  have hts := atoms_spec (ws := (wa yX11_sends cX11_sends 2 none)) B.pre
  have ha : ∀ w ∈ wsL_law, w.before _ s = true := fun w h => hts w (List.mem_cons_of_mem _ h)
  have hown : s.vm.findClass RX11 = some m.cls := findClass_of_methodNamed B.named
  have hlocks := B.notSynchronized
  subst hsz
  have hD := hD0.self (sz := s.heap.size)
  generalize hAe : va_A (mw cI cZ h0 mq mi ma) s.heap.size = A at hD ⊢
  have hA : ∀ q : Nat, s.heap.size ≤ q → A q := fun q h => by rw [← hAe]; exact Or.inr h
  have hS : va_S A s.heap s.heap [] := va_S.rf
  have hP : va_P D vwCl (mw cI cZ h0 mq mi ma) s.heap := hP
  have hl := lv_entry ([.ref h0, .int f]) (n := 2) (Nat.le_of_ble_eq_true rfl)
  rw [lg_entry_eq]
  generalize (lg_sl ([.ref h0, .int f]) ++ List.replicate (2 - (lg_sl ([.ref h0, .int f])).length) Slot.unset).toArray = ls at hl ⊢
  have hl : lv_has ls 2 [(0, .ref h0), (1, .int f)] := hl
  have kc_m1 := tk_m1
  have kc_0 := tk_0
  have kc_1 := tk_1
  have kc_3 := tk_3
  have kc_1024 := tk_1024
  obtain ⟨mi0, hmi0⟩ : ∃ y, y = mi := ⟨_, rfl⟩
  obtain ⟨ma0, hma0⟩ : ∃ y, y = ma := ⟨_, rfl⟩
  have hFI : ∀ k, k ∉ ([26, 30, 28, 27, 6, 5, 73] : List Nat) → mi k = mi0 k := fun k _ => by rw [hmi0]
  have hFA : ∀ k, k ∉ ([31, 7, 8, 9, 59, 69, 46, 70, 61, 72, 45] : List Nat) → ma k = ma0 k := fun k _ => by rw [hma0]
  obtain ⟨QP, hQP⟩ : ∃ y : State → Prop, y = (MQ below (va_Qv (fun (_ : Unit) => True) (fun (_ : Unit) (t : State) => ∃ (mi2 : Nat → Int32) (ma2 : Nat → Nat → Int32), ((MB mi2 ma2 ∧ (∀ k, k ∉ ([26, 30, 28, 27, 6, 5, 73] : List Nat) → mi2 k = mi k) ∧ (∀ k, k ∉ ([31, 7, 8, 9, 59, 69, 46, 70, 61, 72, 45] : List Nat) → ma2 k = ma k)) ∧ ∃ rr : Int32, (x_sends f mi ma) = some (mi2, ma2, rr)) ∧ pw_t D cI cJ cZ cO A (mw cI cZ h0 mq mi2 ma2) t) A) #[(.ref h0 : Value), (.int f : Value)] s 0 0 A) := ⟨_, rfl⟩
  obtain ⟨RES, hRES⟩ : ∃ y, y = (x_sends f mi ma) := ⟨_, rfl⟩
  have hfN : f.toNatClampNeg < 4 := in_lt (vpi_of (n := 4) hf0 (by omega))
  have hle := MB_le2n hI f.toNatClampNeg hfN
  have hlh := MB_le2h hI f.toNatClampNeg hfN
  have J_0 : ∀ (n_0 : Nat), ∀ (mi : Nat → Int32) (ma : Nat → Nat → Int32) (H : Heap) (locs : List Loc), va_P D vwCl (mw cI cZ h0 mq mi ma) H → va_D A (mw cI cZ h0 mq mi ma) → va_S A s.heap H locs → MB mi ma → (∀ k, k ∉ ([26, 30, 28, 27, 6, 5, 73] : List Nat) → mi k = mi0 k) → (∀ k, k ∉ ([31, 7, 8, 9, 59, 69, 46, 70, 61, 72, 45] : List Nat) → ma k = ma0 k) → RES = x_sends_0 f n_0 mi ma → ∀ (ls : Array Slot), lv_has ls 2 [(0, .ref h0), (1, .int f)] → (((ma 44 f.toNatClampNeg).toInt + 200 - (ma 45 f.toNatClampNeg).toInt).toNat + zc (ma 72) f.toNatClampNeg) < n_0 → W p l e ({ frames := 3, cells := 0, slots := 0, locals := 69 }) s m #[(.ref h0 : Value), (.int f : Value)] below meth c H locs 0 0 QP (F0 m 0 ls []) := by
    intro n_0
    induction n_0 with
    | zero => intros; exact absurd ‹_ < 0› (Nat.not_lt_zero _)
    | succ n_0 ih_0 =>
      intro mi ma H locs hP hD hS hI hFI hFA hE ls hl hm
      have hfN : f.toNatClampNeg < 4 := in_lt (vpi_of (n := 4) hf0 (by omega))
      have hle := MB_le2n hI f.toNatClampNeg hfN
      have hlh := MB_le2h hI f.toNatClampNeg hfN
      rw [x_sends_0] at hE
      have hE := ax_at (⟨hI, hf0, by rw [hFI 32 (by decide), hmi0]; exact hff⟩) hE
      refine lv_aload_n hx hb dX11_sends_0 rfl (lv_at hl 0 rfl) ?_
      refine lv_iload_n hx hb dX11_sends_1 rfl (lv_at hl 1 rfl) ?_
      have hFc := va_freeW hD hS hA
      refine va_calli (va_runV (As := [.int f]) (rest := []) ⟨hx, hb, hml, hown, ha⟩ (m_out l D cI cJ cZ cO _ h0 mq mi ma ph cl f hI hf0 hf4) (cwV 1 ha (gaV kl_X11_341 km_X11_out ks_X11_out kz_X11 kd_X11_out) rfl rfl rfl (by decide +kernel) ⟨Nat.le_of_ble_eq_true rfl, Nat.le_of_ble_eq_true rfl⟩) ⟨pw_blind, va_recv hK hP (ci := 11) (q0 := 0) rfl rfl, fun U hU hW => ⟨rfl, pw_start hU hW hP hK hD hN⟩⟩ rfl rfl hl.1 rfl (lv_room (Nat.le_of_ble_eq_true rfl)) dX11_sends_2 ⟨Nat.le_of_ble_eq_true rfl, Nat.le_of_ble_eq_true rfl⟩) hS (fun q _ h => hFc q h) hFc (fun r_1 u t H1 locs ht hvm hw hB hz1 hk1 hS => ?_)
      obtain ⟨mi_2, ma_3, ⟨hf_4, hX1, hX2⟩, hP, hK1, hD1⟩ := hB
      have hE := bc_at hX1 hX2 hw.2 hE
      rw [ht] at hP
      have hD := hD1.weaken (fun k q _ h => hFc q.1 h)
      clear hD1
      generalize H1 = H at hP hS ⊢
      refine W.widen (k := 0) (n := 0) (Nat.le_refl _) (Nat.le_refl _) ?_
      have hI := hf_4.1
      have hFI : ∀ k, k ∉ ([26, 30, 28, 27, 6, 5, 73] : List Nat) → mi_2 k = mi0 k := fun k hk => (hf_4.2.1 k (fun h => hk (by revert h; exact sub_of (by decide) k))).trans (hFI k hk)
      have hFA : ∀ k, k ∉ ([31, 7, 8, 9, 59, 69, 46, 70, 61, 72, 45] : List Nat) → ma_3 k = ma0 k := fun k hk => (hf_4.2.2.1 k (fun h => hk (by revert h; exact sub_of (by decide) k))).trans (hFA k hk)
      have hr_1 := hw.1
      have hll := hf_4.2.2.2
      have f_44 : ma_3 44 = ma 44 := hf_4.2.2.1 44 (by decide)
      have f_45 : ma_3 45 = ma 45 := hf_4.2.2.1 45 (by decide)
      have f_72 : ma_3 72 = ma 72 := hf_4.2.2.1 72 (by decide)
      have f_42 : ma_3 42 = ma 42 := hf_4.2.2.1 42 (by decide)
      have f_54 : ma_3 54 = ma 54 := hf_4.2.2.1 54 (by decide)
      have fi_44 := congrArg Int32.toInt (congrFun f_44 f.toNatClampNeg)
      have fi_45 := congrArg Int32.toInt (congrFun f_45 f.toNatClampNeg)
      refine lv_aload_n hx hb dX11_sends_5 rfl (lv_at hl 0 rfl) ?_
      refine va_get (D := D) (ci := 11) (v := .ref (mq 47)) (C := RX11) (T := TX11) (N := 74) hx hb ha inlX11 hown hK hP 0 mw_at0 rfl 47 (by decide) (ha _ kf_X11_109) (fun _ h9 => h9) rfl dX11_sends_6 ?_
      refine lv_iload_n hx hb dX11_sends_9 rfl (lv_at hl 1 rfl) ?_
      have hin_5 : vp_in f 4 := vpi_of (by omega) (by omega)
      refine va_iald hx hb hK hP 29 0 mw_at47 rfl hin_5 dX11_sends_10 ?_
      refine lv_topi (fun x_6 ex_6 => ?_)
      have hE := bd_at ex_6 hE
      have u_x_6 := congrArg Int32.toInt ex_6
      have r_x_6 := rg_ld (MB_cwnd hI) hin_5 ex_6
      have g1_x_6 := ge1_ld (MB_ge1c hI) hf0 (by rw [hFI 32 (by decide), hmi0]; omega) ex_6
      have nz_x_6 : ¬ x_6 = 0 := nz_of g1_x_6
      refine lv_sipush (v := 1024) hx hb dX11_sends_11 (by decide) ?_
      refine lv_idiv hx hb dX11_sends_14 (by decide) ?_
      refine lv_topi (fun x_7 ex_7 => ?_)
      have hE := bd_at ex_7 hE
      try have t_x_7 := ti_divc (k := 1024) ex_7 tk_1024 (by decide) (by omega)
      refine lv_icmp_ge (tgt := 92) hx hb dX11_sends_15 (by decide) (fun c_8 => ?_) (fun c_8 => ?_)
      · have t_c_8 := Int32.le_iff_toInt_le.mp c_8
        have hE := hE.trans (if_pos c_8)
        refine lv_aload_n hx hb dX11_sends_92 rfl (lv_at hl 0 rfl) ?_
        refine va_get (D := D) (ci := 11) (v := .ref (mq 60)) (C := RX11) (T := TX11) (N := 74) hx hb ha inlX11 hown hK hP 0 mw_at0 rfl 60 (by decide) (ha _ kf_X11_148) (fun _ h9 => h9) rfl dX11_sends_93 ?_
        refine lv_iload_n hx hb dX11_sends_96 rfl (lv_at hl 1 rfl) ?_
        have hin_9 : vp_in f 4 := vpi_of (by omega) (by omega)
        refine va_iald hx hb hK hP 42 0 mw_at60 rfl hin_9 dX11_sends_97 ?_
        refine lv_topi (fun x_10 ex_10 => ?_)
        have hE := bd_at ex_10 hE
        have u_x_10 := congrArg Int32.toInt ex_10
        have r_x_10 := rg_ld (MB_w hI) hin_9 ex_10
        refine lv_if_ne (tgt := 158) hx hb dX11_sends_98 (by decide) (fun c_11 => ?_) (fun c_11 => ?_)
        · have t_c_11 := mt Int32.toInt_inj.mp c_11
          have hE := hE.trans (if_neg c_11)
          rw [hQP]
          exact W.vret hx hb hr (fun t ht hW => ⟨⟨(), rfl, trivial, ⟨mi_2, ma_3, ⟨⟨hI, fun k hk => (hFI k hk).trans (by rw [hmi0]), fun k hk => (hFA k hk).trans (by rw [hma0])⟩, _, hRES.symm.trans hE⟩, by rw [ht]; exact hP, va_K.moved hW.alike hK, hD⟩⟩, hS.F ht⟩) hS.2.2 dX11_sends_158
        · have t_c_11 := congrArg Int32.toInt c_11
          have hE := hE.trans (if_pos c_11)
          refine lv_aload_n hx hb dX11_sends_101 rfl (lv_at hl 0 rfl) ?_
          refine va_get (D := D) (ci := 11) (v := .ref (mq 45)) (C := RX11) (T := TX11) (N := 74) hx hb ha inlX11 hown hK hP 0 mw_at0 rfl 45 (by decide) (ha _ kf_X11_103) (fun _ h9 => h9) rfl dX11_sends_102 ?_
          refine lv_iload_n hx hb dX11_sends_105 rfl (lv_at hl 1 rfl) ?_
          have hin_12 : vp_in f 4 := vpi_of (by omega) (by omega)
          refine va_iald hx hb hK hP 27 0 mw_at45 rfl hin_12 dX11_sends_106 ?_
          refine lv_topi (fun x_13 ex_13 => ?_)
          have hE := bd_at ex_13 hE
          have u_x_13 := congrArg Int32.toInt ex_13
          have r_x_13 := rg_ld (MB_nxt hI) hin_12 ex_13
          refine lv_aload_n hx hb dX11_sends_107 rfl (lv_at hl 0 rfl) ?_
          refine va_get (D := D) (ci := 11) (v := .ref (mq 44)) (C := RX11) (T := TX11) (N := 74) hx hb ha inlX11 hown hK hP 0 mw_at0 rfl 44 (by decide) (ha _ kf_X11_100) (fun _ h9 => h9) rfl dX11_sends_108 ?_
          refine lv_iload_n hx hb dX11_sends_111 rfl (lv_at hl 1 rfl) ?_
          have hin_14 : vp_in f 4 := vpi_of (by omega) (by omega)
          refine va_iald hx hb hK hP 26 0 mw_at44 rfl hin_14 dX11_sends_112 ?_
          refine lv_topi (fun x_15 ex_15 => ?_)
          have hE := bd_at ex_15 hE
          have u_x_15 := congrArg Int32.toInt ex_15
          have r_x_15 := rg_ld (MB_una hI) hin_14 ex_15
          refine lv_icmp_ne (tgt := 158) hx hb dX11_sends_113 (by decide) (fun c_16 => ?_) (fun c_16 => ?_)
          · have t_c_16 := mt Int32.toInt_inj.mp c_16
            have hE := hE.trans (if_neg c_16)
            rw [hQP]
            exact W.vret hx hb hr (fun t ht hW => ⟨⟨(), rfl, trivial, ⟨mi_2, ma_3, ⟨⟨hI, fun k hk => (hFI k hk).trans (by rw [hmi0]), fun k hk => (hFA k hk).trans (by rw [hma0])⟩, _, hRES.symm.trans hE⟩, by rw [ht]; exact hP, va_K.moved hW.alike hK, hD⟩⟩, hS.F ht⟩) hS.2.2 dX11_sends_158
          · have t_c_16 := congrArg Int32.toInt c_16
            have hE := hE.trans (if_pos c_16)
            refine lv_aload_n hx hb dX11_sends_116 rfl (lv_at hl 0 rfl) ?_
            refine va_get (D := D) (ci := 11) (v := .ref (mq 45)) (C := RX11) (T := TX11) (N := 74) hx hb ha inlX11 hown hK hP 0 mw_at0 rfl 45 (by decide) (ha _ kf_X11_103) (fun _ h9 => h9) rfl dX11_sends_117 ?_
            refine lv_iload_n hx hb dX11_sends_120 rfl (lv_at hl 1 rfl) ?_
            have hin_17 : vp_in f 4 := vpi_of (by omega) (by omega)
            refine va_iald hx hb hK hP 27 0 mw_at45 rfl hin_17 dX11_sends_121 ?_
            refine lv_topi (fun x_18 ex_18 => ?_)
            have hE := bd_at ex_18 hE
            have u_x_18 := congrArg Int32.toInt ex_18
            have r_x_18 := rg_ld (MB_nxt hI) hin_17 ex_18
            refine lv_aload_n hx hb dX11_sends_122 rfl (lv_at hl 0 rfl) ?_
            refine va_get (D := D) (ci := 11) (v := .ref (mq 43)) (C := RX11) (T := TX11) (N := 74) hx hb ha inlX11 hown hK hP 0 mw_at0 rfl 43 (by decide) (ha _ kf_X11_97) (fun _ h9 => h9) rfl dX11_sends_123 ?_
            refine lv_iload_n hx hb dX11_sends_126 rfl (lv_at hl 1 rfl) ?_
            have hin_19 : vp_in f 4 := vpi_of (by omega) (by omega)
            refine va_iald hx hb hK hP 25 0 mw_at43 rfl hin_19 dX11_sends_127 ?_
            refine lv_topi (fun x_20 ex_20 => ?_)
            have hE := bd_at ex_20 hE
            have u_x_20 := congrArg Int32.toInt ex_20
            have r_x_20 := rg_ld (MB_all hI) hin_19 ex_20
            refine lv_icmp_ge (tgt := 158) hx hb dX11_sends_128 (by decide) (fun c_21 => ?_) (fun c_21 => ?_)
            · have t_c_21 := Int32.le_iff_toInt_le.mp c_21
              have hE := hE.trans (if_pos c_21)
              rw [hQP]
              exact W.vret hx hb hr (fun t ht hW => ⟨⟨(), rfl, trivial, ⟨mi_2, ma_3, ⟨⟨hI, fun k hk => (hFI k hk).trans (by rw [hmi0]), fun k hk => (hFA k hk).trans (by rw [hma0])⟩, _, hRES.symm.trans hE⟩, by rw [ht]; exact hP, va_K.moved hW.alike hK, hD⟩⟩, hS.F ht⟩) hS.2.2 dX11_sends_158
            · have t_c_21 := Int32.lt_iff_toInt_lt.mp (Int32.not_le.mp c_21)
              have hE := hE.trans (if_neg c_21)
              refine lv_aload_n hx hb dX11_sends_131 rfl (lv_at hl 0 rfl) ?_
              refine va_get (D := D) (ci := 11) (v := .ref (mq 61)) (C := RX11) (T := TX11) (N := 74) hx hb ha inlX11 hown hK hP 0 mw_at0 rfl 61 (by decide) (ha _ kf_X11_151) (fun _ h9 => h9) rfl dX11_sends_132 ?_
              refine lv_iload_n hx hb dX11_sends_135 rfl (lv_at hl 1 rfl) ?_
              have hin_22 : vp_in f 4 := vpi_of (by omega) (by omega)
              refine va_iald hx hb hK hP 43 0 mw_at61 rfl hin_22 dX11_sends_136 ?_
              refine lv_topi (fun x_23 ex_23 => ?_)
              have hE := bd_at ex_23 hE
              have u_x_23 := congrArg Int32.toInt ex_23
              refine lv_iconst (v := (-1)) hx hb dX11_sends_137 (by decide) ?_
              refine lv_icmp_ne (tgt := 158) hx hb dX11_sends_138 (by decide) (fun c_24 => ?_) (fun c_24 => ?_)
              · have t_c_24 := mt Int32.toInt_inj.mp c_24
                have hE := hE.trans (if_neg c_24)
                rw [hQP]
                exact W.vret hx hb hr (fun t ht hW => ⟨⟨(), rfl, trivial, ⟨mi_2, ma_3, ⟨⟨hI, fun k hk => (hFI k hk).trans (by rw [hmi0]), fun k hk => (hFA k hk).trans (by rw [hma0])⟩, _, hRES.symm.trans hE⟩, by rw [ht]; exact hP, va_K.moved hW.alike hK, hD⟩⟩, hS.F ht⟩) hS.2.2 dX11_sends_158
              · have t_c_24 := congrArg Int32.toInt c_24
                have hE := hE.trans (if_pos c_24)
                refine lv_aload_n hx hb dX11_sends_141 rfl (lv_at hl 0 rfl) ?_
                refine va_get (D := D) (ci := 11) (v := .ref (mq 61)) (C := RX11) (T := TX11) (N := 74) hx hb ha inlX11 hown hK hP 0 mw_at0 rfl 61 (by decide) (ha _ kf_X11_151) (fun _ h9 => h9) rfl dX11_sends_142 ?_
                refine lv_iload_n hx hb dX11_sends_145 rfl (lv_at hl 1 rfl) ?_
                refine lv_aload_n hx hb dX11_sends_146 rfl (lv_at hl 0 rfl) ?_
                refine va_get (D := D) (ci := 11) (v := .int (mi_2 4)) (C := RX11) (T := TX11) (N := 74) hx hb ha inlX11 hown hK hP 0 mw_at0 rfl 4 (by decide) (ha _ kf_X11_207) (fun _ h9 => h9) rfl dX11_sends_147 ?_
                refine lv_topi (fun x_25 ex_25 => ?_)
                have hE := bd_at ex_25 hE
                have u_x_25 := congrArg Int32.toInt ex_25
                have r_x_25 := MB_tick hI
                rw [← ex_25] at r_x_25
                refine lv_aload_n hx hb dX11_sends_150 rfl (lv_at hl 0 rfl) ?_
                refine va_get (D := D) (ci := 11) (v := .ref (mq 49)) (C := RX11) (T := TX11) (N := 74) hx hb ha inlX11 hown hK hP 0 mw_at0 rfl 49 (by decide) (ha _ kf_X11_115) (fun _ h9 => h9) rfl dX11_sends_151 ?_
                refine lv_iload_n hx hb dX11_sends_154 rfl (lv_at hl 1 rfl) ?_
                have hin_26 : vp_in f 4 := vpi_of (by omega) (by omega)
                refine va_iald hx hb hK hP 31 0 mw_at49 rfl hin_26 dX11_sends_155 ?_
                refine lv_topi (fun x_27 ex_27 => ?_)
                have hE := bd_at ex_27 hE
                have u_x_27 := congrArg Int32.toInt ex_27
                refine lv_iadd hx hb dX11_sends_156 ?_
                refine lv_topi (fun x_28 ex_28 => ?_)
                have hE := bd_at ex_28 hE
                have hin_29 : vp_in f 4 := vpi_of (by omega) (by omega)
                refine va_iast hx hb hK hP hD hS 43 0 mw_at61 rfl hin_29 dX11_sends_157 (fun H locs hP hD hS => ?_)
                have hP : va_P D vwCl (mw cI cZ h0 mq mi_2 (va_up ma_3 61 (upd (ma_3 61) f.toNatClampNeg x_28))) H := mwP_61 hP
                have hD : va_D A (mw cI cZ h0 mq mi_2 (va_up ma_3 61 (upd (ma_3 61) f.toNatClampNeg x_28))) := mwD_61 hD
                generalize hma_30 : va_up ma_3 61 (upd (ma_3 61) f.toNatClampNeg x_28) = ma_30 at hP hD
                have hI : MB mi_2 ma_30 := by rw [← hma_30]; exact MBa_timer hI
                have hFA : ∀ k, k ∉ ([31, 7, 8, 9, 59, 69, 46, 70, 61, 72, 45] : List Nat) → ma_30 k = ma0 k := fun k hk => by rw [← hma_30]; exact (va_up_ne _ _ (fun e => hk (by rw [e]; decide))).trans (hFA k hk)
                have hE := bs_at hma_30 hE
                rw [hQP]
                exact W.vret hx hb hr (fun t ht hW => ⟨⟨(), rfl, trivial, ⟨mi_2, ma_30, ⟨⟨hI, fun k hk => (hFI k hk).trans (by rw [hmi0]), fun k hk => (hFA k hk).trans (by rw [hma0])⟩, _, hRES.symm.trans hE⟩, by rw [ht]; exact hP, va_K.moved hW.alike hK, hD⟩⟩, hS.F ht⟩) hS.2.2 dX11_sends_158
      · have t_c_8 := Int32.lt_iff_toInt_lt.mp (Int32.not_le.mp c_8)
        have hE := hE.trans (if_neg c_8)
        refine lv_aload_n hx hb dX11_sends_18 rfl (lv_at hl 0 rfl) ?_
        refine va_get (D := D) (ci := 11) (v := .ref (mq 42)) (C := RX11) (T := TX11) (N := 74) hx hb ha inlX11 hown hK hP 0 mw_at0 rfl 42 (by decide) (ha _ kf_X11_94) (fun _ h9 => h9) rfl dX11_sends_19 ?_
        refine lv_iload_n hx hb dX11_sends_22 rfl (lv_at hl 1 rfl) ?_
        have hin_31 : vp_in f 4 := vpi_of (by omega) (by omega)
        refine va_iald hx hb hK hP 24 0 mw_at42 rfl hin_31 dX11_sends_23 ?_
        refine lv_topi (fun x_32 ex_32 => ?_)
        have hE := bd_at ex_32 hE
        have u_x_32 := congrArg Int32.toInt ex_32
        refine lv_iconst (v := 3) hx hb dX11_sends_24 (by decide) ?_
        refine lv_icmp_ne (tgt := 57) hx hb dX11_sends_25 (by decide) (fun c_33 => ?_) (fun c_33 => ?_)
        · have t_c_33 := mt Int32.toInt_inj.mp c_33
          have hE := hE.trans (if_neg c_33)
          refine lv_aload_n hx hb dX11_sends_57 rfl (lv_at hl 0 rfl) ?_
          refine lv_iload_n hx hb dX11_sends_58 rfl (lv_at hl 1 rfl) ?_
          have hFc := va_freeW hD hS hA
          refine va_calli (va_runV (As := [.int f]) (rest := []) ⟨hx, hb, hml, hown, ha⟩ (m_mayNext l D cI cJ cZ cO _ h0 mq mi_2 ma_3 ph cl f hI hf0 hf4) (cwV 1 ha (gaV kl_X11_344 km_X11_mayNext ks_X11_mayNext kz_X11 kd_X11_mayNext) rfl rfl rfl (by decide +kernel) ⟨Nat.le_of_ble_eq_true rfl, Nat.le_of_ble_eq_true rfl⟩) ⟨pw_blind, va_recv hK hP (ci := 11) (q0 := 0) rfl rfl, fun U hU hW => ⟨rfl, pw_start hU hW hP hK hD hN⟩⟩ rfl rfl hl.1 rfl (lv_room (Nat.le_of_ble_eq_true rfl)) dX11_sends_59 ⟨Nat.le_of_ble_eq_true rfl, Nat.le_of_ble_eq_true rfl⟩) hS (fun q _ h => hFc q h) hFc (fun r_34 u t H1 locs ht hvm hw hB hz1 hk1 hS => ?_)
          obtain ⟨mi_35, ma_36, ⟨hf_37, hX1, hX2⟩, hP, hK1, hD1⟩ := hB
          have hE := bc_at hX1 hX2 hw.2 hE
          rw [ht] at hP
          have hD := hD1.weaken (fun k q _ h => hFc q.1 h)
          clear hD1
          generalize H1 = H at hP hS ⊢
          refine W.widen (k := 0) (n := 0) (Nat.le_refl _) (Nat.le_refl _) ?_
          have hI := hf_37.1
          have hFI : ∀ k, k ∉ ([26, 30, 28, 27, 6, 5, 73] : List Nat) → mi_35 k = mi0 k := fun k hk => (hf_37.2.1 k (fun h => hk (by revert h; exact sub_of (by decide) k))).trans (hFI k hk)
          have hFA : ∀ k, k ∉ ([31, 7, 8, 9, 59, 69, 46, 70, 61, 72, 45] : List Nat) → ma_36 k = ma0 k := fun k hk => (hf_37.2.2 k (fun h => hk (by revert h; exact sub_of (by decide) k))).trans (hFA k hk)
          have hr_34 := hw.1
          have hmay := hr_34
          have hmf := hf_37
          have g_44 : ma_36 44 = ma_3 44 := hf_37.2.2 44 (by decide)
          have g_45 : ma_36 45 = ma_3 45 := hf_37.2.2 45 (by decide)
          have g_72 : ma_36 72 = ma_3 72 := hf_37.2.2 72 (by decide)
          have gi_44 := congrArg Int32.toInt (congrFun g_44 f.toNatClampNeg)
          have gi_45 := congrArg Int32.toInt (congrFun g_45 f.toNatClampNeg)
          refine lv_if_ne (tgt := 68) hx hb dX11_sends_62 (by decide) (fun c_38 => ?_) (fun c_38 => ?_)
          · have t_c_38 := mt Int32.toInt_inj.mp c_38
            have hE := hE.trans (if_neg c_38)
            refine lv_aload_n hx hb dX11_sends_68 rfl (lv_at hl 0 rfl) ?_
            refine lv_iload_n hx hb dX11_sends_69 rfl (lv_at hl 1 rfl) ?_
            refine lv_aload_n hx hb dX11_sends_70 rfl (lv_at hl 0 rfl) ?_
            refine va_get (D := D) (ci := 11) (v := .ref (mq 45)) (C := RX11) (T := TX11) (N := 74) hx hb ha inlX11 hown hK hP 0 mw_at0 rfl 45 (by decide) (ha _ kf_X11_103) (fun _ h9 => h9) rfl dX11_sends_71 ?_
            refine lv_iload_n hx hb dX11_sends_74 rfl (lv_at hl 1 rfl) ?_
            have hin_39 : vp_in f 4 := vpi_of (by omega) (by omega)
            refine va_iald hx hb hK hP 27 0 mw_at45 rfl hin_39 dX11_sends_75 ?_
            refine lv_topi (fun x_40 ex_40 => ?_)
            have hE := bd_at ex_40 hE
            have u_x_40 := congrArg Int32.toInt ex_40
            have r_x_40 := rg_ld (MB_nxt hI) hin_39 ex_40
            have hmn := hmay.2 c_38
            have hFc := va_freeW hD hS hA
            refine va_callv (va_runV (As := [.int f, .int x_40]) (rest := []) ⟨hx, hb, hml, hown, ha⟩ (m_sendsOne l D cI cJ cZ cO _ h0 mq mi_35 ma_36 ph cl f x_40 hI hf0 hf4 (by rw [hFI 32 (by decide), hmi0]; omega) (by omega) (by omega) (by omega)) (cwV 2 ha (gaV kl_X11_332 km_X11_sendsOne ks_X11_sendsOne kz_X11 kd_X11_sendsOne) rfl rfl rfl (by decide +kernel) ⟨Nat.le_of_ble_eq_true rfl, Nat.le_of_ble_eq_true rfl⟩) ⟨pw_blind, va_recv hK hP (ci := 11) (q0 := 0) rfl rfl, fun U hU hW => ⟨rfl, pw_start hU hW hP hK hD hN⟩⟩ rfl rfl hl.1 rfl (lv_room (Nat.le_of_ble_eq_true rfl)) dX11_sends_76 ⟨Nat.le_of_ble_eq_true rfl, Nat.le_of_ble_eq_true rfl⟩) hS (fun q _ h => hFc q h) hFc (fun u t H1 locs ht hvm hw hB hz1 hk1 hS => ?_)
            obtain ⟨mi_42, ma_43, ⟨hf_44, hX1, hX2⟩, hP, hK1, hD1⟩ := hB
            have hE := bc_atv hX1 hX2 hE
            rw [ht] at hP
            have hD := hD1.weaken (fun k q _ h => hFc q.1 h)
            clear hD1
            generalize H1 = H at hP hS ⊢
            refine W.widen (k := 0) (n := 0) (Nat.le_refl _) (Nat.le_refl _) ?_
            have hI := hf_44.1
            have hFI : ∀ k, k ∉ ([26, 30, 28, 27, 6, 5, 73] : List Nat) → mi_42 k = mi0 k := fun k hk => (hf_44.2.1 k (fun h => hk (by revert h; exact sub_of (by decide) k))).trans (hFI k hk)
            have hFA : ∀ k, k ∉ ([31, 7, 8, 9, 59, 69, 46, 70, 61, 72, 45] : List Nat) → ma_43 k = ma0 k := fun k hk => (hf_44.2.2 k (fun h => hk (by revert h; exact sub_of (by decide) k))).trans (hFA k hk)
            refine lv_aload_n hx hb dX11_sends_79 rfl (lv_at hl 0 rfl) ?_
            refine va_get (D := D) (ci := 11) (v := .ref (mq 45)) (C := RX11) (T := TX11) (N := 74) hx hb ha inlX11 hown hK hP 0 mw_at0 rfl 45 (by decide) (ha _ kf_X11_103) (fun _ h9 => h9) rfl dX11_sends_80 ?_
            refine lv_iload_n hx hb dX11_sends_83 rfl (lv_at hl 1 rfl) ?_
            refine lv_dup2_11 hx hb dX11_sends_84 rfl rfl ?_
            have hin_45 : vp_in f 4 := vpi_of (by omega) (by omega)
            refine va_iald hx hb hK hP 27 0 mw_at45 rfl hin_45 dX11_sends_85 ?_
            refine lv_topi (fun x_46 ex_46 => ?_)
            have hE := bd_at ex_46 hE
            have u_x_46 := congrArg Int32.toInt ex_46
            have q_x_46 : x_46.toInt = x_40.toInt := congrArg Int32.toInt (ex_46.trans ((congrFun (hf_44.2.2 45 (by decide)) _).trans (ex_40.symm)))
            have r_x_46 := rg_ld (MB_nxt hI) hin_45 ex_46
            refine lv_iconst (v := 1) hx hb dX11_sends_86 (by decide) ?_
            refine lv_iadd hx hb dX11_sends_87 ?_
            refine lv_topi (fun x_47 ex_47 => ?_)
            have hE := bd_at ex_47 hE
            try have t_x_47 := ti_add ex_47 (by omega) (by omega)
            have hin_48 : vp_in f 4 := vpi_of (by omega) (by omega)
            refine va_iast hx hb hK hP hD hS 27 0 mw_at45 rfl hin_48 dX11_sends_88 (fun H locs hP hD hS => ?_)
            have hP : va_P D vwCl (mw cI cZ h0 mq mi_42 (va_up ma_43 45 (upd (ma_43 45) f.toNatClampNeg x_47))) H := mwP_45 hP
            have hD : va_D A (mw cI cZ h0 mq mi_42 (va_up ma_43 45 (upd (ma_43 45) f.toNatClampNeg x_47))) := mwD_45 hD
            generalize hma_49 : va_up ma_43 45 (upd (ma_43 45) f.toNatClampNeg x_47) = ma_49 at hP hD
            have hI : MB mi_42 ma_49 := by rw [← hma_49]; exact MBa_nxt hI (by omega) (by omega) (by have b4 := hf_44.2.2 44 (by decide); have b7 := congrArg Int32.toInt (congrFun b4 f.toNatClampNeg); omega)
            have hFA : ∀ k, k ∉ ([31, 7, 8, 9, 59, 69, 46, 70, 61, 72, 45] : List Nat) → ma_49 k = ma0 k := fun k hk => by rw [← hma_49]; exact (va_up_ne _ _ (fun e => hk (by rw [e]; decide))).trans (hFA k hk)
            have hE := bs_at hma_49 hE
            refine lv_goto (tgt := 0) hx hb dX11_sends_89 (by decide) ?_
            exact ih_0 mi_42 ma_49  _ _ hP hD hS hI hFI hFA hE _ (lv_sub hl [0, 1] rfl) (by have b1 : ma_49 44 = ma_43 44 := (congrFun hma_49 44).symm; have b2 : ma_49 72 = ma_43 72 := (congrFun hma_49 72).symm; have b3 : ma_49 45 f.toNatClampNeg = x_47 := (congrFun (congrFun hma_49 45) f.toNatClampNeg).symm.trans (if_pos rfl); have b4 := hf_44.2.2 44 (by decide); have b5 := hf_44.2.2 72 (by decide); have b6 : (ma_49 45 f.toNatClampNeg).toInt = x_47.toInt := congrArg Int32.toInt b3; rw [b1, b2, b4, b5, g_44, g_72, f_44, f_72]; omega)
          · have t_c_38 := congrArg Int32.toInt c_38
            have hE := hE.trans (if_pos c_38)
            refine lv_goto (tgt := 92) hx hb dX11_sends_65 (by decide) ?_
            refine lv_aload_n hx hb dX11_sends_92 rfl (lv_at hl 0 rfl) ?_
            refine va_get (D := D) (ci := 11) (v := .ref (mq 60)) (C := RX11) (T := TX11) (N := 74) hx hb ha inlX11 hown hK hP 0 mw_at0 rfl 60 (by decide) (ha _ kf_X11_148) (fun _ h9 => h9) rfl dX11_sends_93 ?_
            refine lv_iload_n hx hb dX11_sends_96 rfl (lv_at hl 1 rfl) ?_
            have hin_50 : vp_in f 4 := vpi_of (by omega) (by omega)
            refine va_iald hx hb hK hP 42 0 mw_at60 rfl hin_50 dX11_sends_97 ?_
            refine lv_topi (fun x_51 ex_51 => ?_)
            have hE := bd_at ex_51 hE
            have u_x_51 := congrArg Int32.toInt ex_51
            have r_x_51 := rg_ld (MB_w hI) hin_50 ex_51
            refine lv_if_ne (tgt := 158) hx hb dX11_sends_98 (by decide) (fun c_52 => ?_) (fun c_52 => ?_)
            · have t_c_52 := mt Int32.toInt_inj.mp c_52
              have hE := hE.trans (if_neg c_52)
              rw [hQP]
              exact W.vret hx hb hr (fun t ht hW => ⟨⟨(), rfl, trivial, ⟨mi_35, ma_36, ⟨⟨hI, fun k hk => (hFI k hk).trans (by rw [hmi0]), fun k hk => (hFA k hk).trans (by rw [hma0])⟩, _, hRES.symm.trans hE⟩, by rw [ht]; exact hP, va_K.moved hW.alike hK, hD⟩⟩, hS.F ht⟩) hS.2.2 dX11_sends_158
            · have t_c_52 := congrArg Int32.toInt c_52
              have hE := hE.trans (if_pos c_52)
              refine lv_aload_n hx hb dX11_sends_101 rfl (lv_at hl 0 rfl) ?_
              refine va_get (D := D) (ci := 11) (v := .ref (mq 45)) (C := RX11) (T := TX11) (N := 74) hx hb ha inlX11 hown hK hP 0 mw_at0 rfl 45 (by decide) (ha _ kf_X11_103) (fun _ h9 => h9) rfl dX11_sends_102 ?_
              refine lv_iload_n hx hb dX11_sends_105 rfl (lv_at hl 1 rfl) ?_
              have hin_53 : vp_in f 4 := vpi_of (by omega) (by omega)
              refine va_iald hx hb hK hP 27 0 mw_at45 rfl hin_53 dX11_sends_106 ?_
              refine lv_topi (fun x_54 ex_54 => ?_)
              have hE := bd_at ex_54 hE
              have u_x_54 := congrArg Int32.toInt ex_54
              have r_x_54 := rg_ld (MB_nxt hI) hin_53 ex_54
              refine lv_aload_n hx hb dX11_sends_107 rfl (lv_at hl 0 rfl) ?_
              refine va_get (D := D) (ci := 11) (v := .ref (mq 44)) (C := RX11) (T := TX11) (N := 74) hx hb ha inlX11 hown hK hP 0 mw_at0 rfl 44 (by decide) (ha _ kf_X11_100) (fun _ h9 => h9) rfl dX11_sends_108 ?_
              refine lv_iload_n hx hb dX11_sends_111 rfl (lv_at hl 1 rfl) ?_
              have hin_55 : vp_in f 4 := vpi_of (by omega) (by omega)
              refine va_iald hx hb hK hP 26 0 mw_at44 rfl hin_55 dX11_sends_112 ?_
              refine lv_topi (fun x_56 ex_56 => ?_)
              have hE := bd_at ex_56 hE
              have u_x_56 := congrArg Int32.toInt ex_56
              have r_x_56 := rg_ld (MB_una hI) hin_55 ex_56
              refine lv_icmp_ne (tgt := 158) hx hb dX11_sends_113 (by decide) (fun c_57 => ?_) (fun c_57 => ?_)
              · have t_c_57 := mt Int32.toInt_inj.mp c_57
                have hE := hE.trans (if_neg c_57)
                rw [hQP]
                exact W.vret hx hb hr (fun t ht hW => ⟨⟨(), rfl, trivial, ⟨mi_35, ma_36, ⟨⟨hI, fun k hk => (hFI k hk).trans (by rw [hmi0]), fun k hk => (hFA k hk).trans (by rw [hma0])⟩, _, hRES.symm.trans hE⟩, by rw [ht]; exact hP, va_K.moved hW.alike hK, hD⟩⟩, hS.F ht⟩) hS.2.2 dX11_sends_158
              · have t_c_57 := congrArg Int32.toInt c_57
                have hE := hE.trans (if_pos c_57)
                refine lv_aload_n hx hb dX11_sends_116 rfl (lv_at hl 0 rfl) ?_
                refine va_get (D := D) (ci := 11) (v := .ref (mq 45)) (C := RX11) (T := TX11) (N := 74) hx hb ha inlX11 hown hK hP 0 mw_at0 rfl 45 (by decide) (ha _ kf_X11_103) (fun _ h9 => h9) rfl dX11_sends_117 ?_
                refine lv_iload_n hx hb dX11_sends_120 rfl (lv_at hl 1 rfl) ?_
                have hin_58 : vp_in f 4 := vpi_of (by omega) (by omega)
                refine va_iald hx hb hK hP 27 0 mw_at45 rfl hin_58 dX11_sends_121 ?_
                refine lv_topi (fun x_59 ex_59 => ?_)
                have hE := bd_at ex_59 hE
                have u_x_59 := congrArg Int32.toInt ex_59
                have r_x_59 := rg_ld (MB_nxt hI) hin_58 ex_59
                refine lv_aload_n hx hb dX11_sends_122 rfl (lv_at hl 0 rfl) ?_
                refine va_get (D := D) (ci := 11) (v := .ref (mq 43)) (C := RX11) (T := TX11) (N := 74) hx hb ha inlX11 hown hK hP 0 mw_at0 rfl 43 (by decide) (ha _ kf_X11_97) (fun _ h9 => h9) rfl dX11_sends_123 ?_
                refine lv_iload_n hx hb dX11_sends_126 rfl (lv_at hl 1 rfl) ?_
                have hin_60 : vp_in f 4 := vpi_of (by omega) (by omega)
                refine va_iald hx hb hK hP 25 0 mw_at43 rfl hin_60 dX11_sends_127 ?_
                refine lv_topi (fun x_61 ex_61 => ?_)
                have hE := bd_at ex_61 hE
                have u_x_61 := congrArg Int32.toInt ex_61
                have r_x_61 := rg_ld (MB_all hI) hin_60 ex_61
                refine lv_icmp_ge (tgt := 158) hx hb dX11_sends_128 (by decide) (fun c_62 => ?_) (fun c_62 => ?_)
                · have t_c_62 := Int32.le_iff_toInt_le.mp c_62
                  have hE := hE.trans (if_pos c_62)
                  rw [hQP]
                  exact W.vret hx hb hr (fun t ht hW => ⟨⟨(), rfl, trivial, ⟨mi_35, ma_36, ⟨⟨hI, fun k hk => (hFI k hk).trans (by rw [hmi0]), fun k hk => (hFA k hk).trans (by rw [hma0])⟩, _, hRES.symm.trans hE⟩, by rw [ht]; exact hP, va_K.moved hW.alike hK, hD⟩⟩, hS.F ht⟩) hS.2.2 dX11_sends_158
                · have t_c_62 := Int32.lt_iff_toInt_lt.mp (Int32.not_le.mp c_62)
                  have hE := hE.trans (if_neg c_62)
                  refine lv_aload_n hx hb dX11_sends_131 rfl (lv_at hl 0 rfl) ?_
                  refine va_get (D := D) (ci := 11) (v := .ref (mq 61)) (C := RX11) (T := TX11) (N := 74) hx hb ha inlX11 hown hK hP 0 mw_at0 rfl 61 (by decide) (ha _ kf_X11_151) (fun _ h9 => h9) rfl dX11_sends_132 ?_
                  refine lv_iload_n hx hb dX11_sends_135 rfl (lv_at hl 1 rfl) ?_
                  have hin_63 : vp_in f 4 := vpi_of (by omega) (by omega)
                  refine va_iald hx hb hK hP 43 0 mw_at61 rfl hin_63 dX11_sends_136 ?_
                  refine lv_topi (fun x_64 ex_64 => ?_)
                  have hE := bd_at ex_64 hE
                  have u_x_64 := congrArg Int32.toInt ex_64
                  refine lv_iconst (v := (-1)) hx hb dX11_sends_137 (by decide) ?_
                  refine lv_icmp_ne (tgt := 158) hx hb dX11_sends_138 (by decide) (fun c_65 => ?_) (fun c_65 => ?_)
                  · have t_c_65 := mt Int32.toInt_inj.mp c_65
                    have hE := hE.trans (if_neg c_65)
                    rw [hQP]
                    exact W.vret hx hb hr (fun t ht hW => ⟨⟨(), rfl, trivial, ⟨mi_35, ma_36, ⟨⟨hI, fun k hk => (hFI k hk).trans (by rw [hmi0]), fun k hk => (hFA k hk).trans (by rw [hma0])⟩, _, hRES.symm.trans hE⟩, by rw [ht]; exact hP, va_K.moved hW.alike hK, hD⟩⟩, hS.F ht⟩) hS.2.2 dX11_sends_158
                  · have t_c_65 := congrArg Int32.toInt c_65
                    have hE := hE.trans (if_pos c_65)
                    refine lv_aload_n hx hb dX11_sends_141 rfl (lv_at hl 0 rfl) ?_
                    refine va_get (D := D) (ci := 11) (v := .ref (mq 61)) (C := RX11) (T := TX11) (N := 74) hx hb ha inlX11 hown hK hP 0 mw_at0 rfl 61 (by decide) (ha _ kf_X11_151) (fun _ h9 => h9) rfl dX11_sends_142 ?_
                    refine lv_iload_n hx hb dX11_sends_145 rfl (lv_at hl 1 rfl) ?_
                    refine lv_aload_n hx hb dX11_sends_146 rfl (lv_at hl 0 rfl) ?_
                    refine va_get (D := D) (ci := 11) (v := .int (mi_35 4)) (C := RX11) (T := TX11) (N := 74) hx hb ha inlX11 hown hK hP 0 mw_at0 rfl 4 (by decide) (ha _ kf_X11_207) (fun _ h9 => h9) rfl dX11_sends_147 ?_
                    refine lv_topi (fun x_66 ex_66 => ?_)
                    have hE := bd_at ex_66 hE
                    have u_x_66 := congrArg Int32.toInt ex_66
                    have r_x_66 := MB_tick hI
                    rw [← ex_66] at r_x_66
                    refine lv_aload_n hx hb dX11_sends_150 rfl (lv_at hl 0 rfl) ?_
                    refine va_get (D := D) (ci := 11) (v := .ref (mq 49)) (C := RX11) (T := TX11) (N := 74) hx hb ha inlX11 hown hK hP 0 mw_at0 rfl 49 (by decide) (ha _ kf_X11_115) (fun _ h9 => h9) rfl dX11_sends_151 ?_
                    refine lv_iload_n hx hb dX11_sends_154 rfl (lv_at hl 1 rfl) ?_
                    have hin_67 : vp_in f 4 := vpi_of (by omega) (by omega)
                    refine va_iald hx hb hK hP 31 0 mw_at49 rfl hin_67 dX11_sends_155 ?_
                    refine lv_topi (fun x_68 ex_68 => ?_)
                    have hE := bd_at ex_68 hE
                    have u_x_68 := congrArg Int32.toInt ex_68
                    refine lv_iadd hx hb dX11_sends_156 ?_
                    refine lv_topi (fun x_69 ex_69 => ?_)
                    have hE := bd_at ex_69 hE
                    have hin_70 : vp_in f 4 := vpi_of (by omega) (by omega)
                    refine va_iast hx hb hK hP hD hS 43 0 mw_at61 rfl hin_70 dX11_sends_157 (fun H locs hP hD hS => ?_)
                    have hP : va_P D vwCl (mw cI cZ h0 mq mi_35 (va_up ma_36 61 (upd (ma_36 61) f.toNatClampNeg x_69))) H := mwP_61 hP
                    have hD : va_D A (mw cI cZ h0 mq mi_35 (va_up ma_36 61 (upd (ma_36 61) f.toNatClampNeg x_69))) := mwD_61 hD
                    generalize hma_71 : va_up ma_36 61 (upd (ma_36 61) f.toNatClampNeg x_69) = ma_71 at hP hD
                    have hI : MB mi_35 ma_71 := by rw [← hma_71]; exact MBa_timer hI
                    have hFA : ∀ k, k ∉ ([31, 7, 8, 9, 59, 69, 46, 70, 61, 72, 45] : List Nat) → ma_71 k = ma0 k := fun k hk => by rw [← hma_71]; exact (va_up_ne _ _ (fun e => hk (by rw [e]; decide))).trans (hFA k hk)
                    have hE := bs_at hma_71 hE
                    rw [hQP]
                    exact W.vret hx hb hr (fun t ht hW => ⟨⟨(), rfl, trivial, ⟨mi_35, ma_71, ⟨⟨hI, fun k hk => (hFI k hk).trans (by rw [hmi0]), fun k hk => (hFA k hk).trans (by rw [hma0])⟩, _, hRES.symm.trans hE⟩, by rw [ht]; exact hP, va_K.moved hW.alike hK, hD⟩⟩, hS.F ht⟩) hS.2.2 dX11_sends_158
        · have t_c_33 := congrArg Int32.toInt c_33
          have hE := hE.trans (if_pos c_33)
          refine lv_aload_n hx hb dX11_sends_28 rfl (lv_at hl 0 rfl) ?_
          refine va_get (D := D) (ci := 11) (v := .ref (mq 54)) (C := RX11) (T := TX11) (N := 74) hx hb ha inlX11 hown hK hP 0 mw_at0 rfl 54 (by decide) (ha _ kf_X11_130) (fun _ h9 => h9) rfl dX11_sends_29 ?_
          refine lv_iload_n hx hb dX11_sends_32 rfl (lv_at hl 1 rfl) ?_
          have hin_72 : vp_in f 4 := vpi_of (by omega) (by omega)
          refine va_zald hx hb hK hP 36 2 mw_at54 rfl hin_72 dX11_sends_33 ?_
          refine lv_topi (fun x_73 ex_73 => ?_)
          have hE := bd_at ex_73 hE
          have u_x_73 := congrArg Int32.toInt ex_73
          refine lv_if_eq (tgt := 57) hx hb dX11_sends_34 (by decide) (fun c_74 => ?_) (fun c_74 => ?_)
          · have t_c_74 := congrArg Int32.toInt c_74
            have hE := hE.trans (if_pos c_74)
            refine lv_aload_n hx hb dX11_sends_57 rfl (lv_at hl 0 rfl) ?_
            refine lv_iload_n hx hb dX11_sends_58 rfl (lv_at hl 1 rfl) ?_
            have hFc := va_freeW hD hS hA
            refine va_calli (va_runV (As := [.int f]) (rest := []) ⟨hx, hb, hml, hown, ha⟩ (m_mayNext l D cI cJ cZ cO _ h0 mq mi_2 ma_3 ph cl f hI hf0 hf4) (cwV 1 ha (gaV kl_X11_344 km_X11_mayNext ks_X11_mayNext kz_X11 kd_X11_mayNext) rfl rfl rfl (by decide +kernel) ⟨Nat.le_of_ble_eq_true rfl, Nat.le_of_ble_eq_true rfl⟩) ⟨pw_blind, va_recv hK hP (ci := 11) (q0 := 0) rfl rfl, fun U hU hW => ⟨rfl, pw_start hU hW hP hK hD hN⟩⟩ rfl rfl hl.1 rfl (lv_room (Nat.le_of_ble_eq_true rfl)) dX11_sends_59 ⟨Nat.le_of_ble_eq_true rfl, Nat.le_of_ble_eq_true rfl⟩) hS (fun q _ h => hFc q h) hFc (fun r_75 u t H1 locs ht hvm hw hB hz1 hk1 hS => ?_)
            obtain ⟨mi_76, ma_77, ⟨hf_78, hX1, hX2⟩, hP, hK1, hD1⟩ := hB
            have hE := bc_at hX1 hX2 hw.2 hE
            rw [ht] at hP
            have hD := hD1.weaken (fun k q _ h => hFc q.1 h)
            clear hD1
            generalize H1 = H at hP hS ⊢
            refine W.widen (k := 0) (n := 0) (Nat.le_refl _) (Nat.le_refl _) ?_
            have hI := hf_78.1
            have hFI : ∀ k, k ∉ ([26, 30, 28, 27, 6, 5, 73] : List Nat) → mi_76 k = mi0 k := fun k hk => (hf_78.2.1 k (fun h => hk (by revert h; exact sub_of (by decide) k))).trans (hFI k hk)
            have hFA : ∀ k, k ∉ ([31, 7, 8, 9, 59, 69, 46, 70, 61, 72, 45] : List Nat) → ma_77 k = ma0 k := fun k hk => (hf_78.2.2 k (fun h => hk (by revert h; exact sub_of (by decide) k))).trans (hFA k hk)
            have hr_75 := hw.1
            have hmay := hr_75
            have hmf := hf_78
            have g_44 : ma_77 44 = ma_3 44 := hf_78.2.2 44 (by decide)
            have g_45 : ma_77 45 = ma_3 45 := hf_78.2.2 45 (by decide)
            have g_72 : ma_77 72 = ma_3 72 := hf_78.2.2 72 (by decide)
            have gi_44 := congrArg Int32.toInt (congrFun g_44 f.toNatClampNeg)
            have gi_45 := congrArg Int32.toInt (congrFun g_45 f.toNatClampNeg)
            refine lv_if_ne (tgt := 68) hx hb dX11_sends_62 (by decide) (fun c_79 => ?_) (fun c_79 => ?_)
            · have t_c_79 := mt Int32.toInt_inj.mp c_79
              have hE := hE.trans (if_neg c_79)
              refine lv_aload_n hx hb dX11_sends_68 rfl (lv_at hl 0 rfl) ?_
              refine lv_iload_n hx hb dX11_sends_69 rfl (lv_at hl 1 rfl) ?_
              refine lv_aload_n hx hb dX11_sends_70 rfl (lv_at hl 0 rfl) ?_
              refine va_get (D := D) (ci := 11) (v := .ref (mq 45)) (C := RX11) (T := TX11) (N := 74) hx hb ha inlX11 hown hK hP 0 mw_at0 rfl 45 (by decide) (ha _ kf_X11_103) (fun _ h9 => h9) rfl dX11_sends_71 ?_
              refine lv_iload_n hx hb dX11_sends_74 rfl (lv_at hl 1 rfl) ?_
              have hin_80 : vp_in f 4 := vpi_of (by omega) (by omega)
              refine va_iald hx hb hK hP 27 0 mw_at45 rfl hin_80 dX11_sends_75 ?_
              refine lv_topi (fun x_81 ex_81 => ?_)
              have hE := bd_at ex_81 hE
              have u_x_81 := congrArg Int32.toInt ex_81
              have r_x_81 := rg_ld (MB_nxt hI) hin_80 ex_81
              have hmn := hmay.2 c_79
              have hFc := va_freeW hD hS hA
              refine va_callv (va_runV (As := [.int f, .int x_81]) (rest := []) ⟨hx, hb, hml, hown, ha⟩ (m_sendsOne l D cI cJ cZ cO _ h0 mq mi_76 ma_77 ph cl f x_81 hI hf0 hf4 (by rw [hFI 32 (by decide), hmi0]; omega) (by omega) (by omega) (by omega)) (cwV 2 ha (gaV kl_X11_332 km_X11_sendsOne ks_X11_sendsOne kz_X11 kd_X11_sendsOne) rfl rfl rfl (by decide +kernel) ⟨Nat.le_of_ble_eq_true rfl, Nat.le_of_ble_eq_true rfl⟩) ⟨pw_blind, va_recv hK hP (ci := 11) (q0 := 0) rfl rfl, fun U hU hW => ⟨rfl, pw_start hU hW hP hK hD hN⟩⟩ rfl rfl hl.1 rfl (lv_room (Nat.le_of_ble_eq_true rfl)) dX11_sends_76 ⟨Nat.le_of_ble_eq_true rfl, Nat.le_of_ble_eq_true rfl⟩) hS (fun q _ h => hFc q h) hFc (fun u t H1 locs ht hvm hw hB hz1 hk1 hS => ?_)
              obtain ⟨mi_83, ma_84, ⟨hf_85, hX1, hX2⟩, hP, hK1, hD1⟩ := hB
              have hE := bc_atv hX1 hX2 hE
              rw [ht] at hP
              have hD := hD1.weaken (fun k q _ h => hFc q.1 h)
              clear hD1
              generalize H1 = H at hP hS ⊢
              refine W.widen (k := 0) (n := 0) (Nat.le_refl _) (Nat.le_refl _) ?_
              have hI := hf_85.1
              have hFI : ∀ k, k ∉ ([26, 30, 28, 27, 6, 5, 73] : List Nat) → mi_83 k = mi0 k := fun k hk => (hf_85.2.1 k (fun h => hk (by revert h; exact sub_of (by decide) k))).trans (hFI k hk)
              have hFA : ∀ k, k ∉ ([31, 7, 8, 9, 59, 69, 46, 70, 61, 72, 45] : List Nat) → ma_84 k = ma0 k := fun k hk => (hf_85.2.2 k (fun h => hk (by revert h; exact sub_of (by decide) k))).trans (hFA k hk)
              refine lv_aload_n hx hb dX11_sends_79 rfl (lv_at hl 0 rfl) ?_
              refine va_get (D := D) (ci := 11) (v := .ref (mq 45)) (C := RX11) (T := TX11) (N := 74) hx hb ha inlX11 hown hK hP 0 mw_at0 rfl 45 (by decide) (ha _ kf_X11_103) (fun _ h9 => h9) rfl dX11_sends_80 ?_
              refine lv_iload_n hx hb dX11_sends_83 rfl (lv_at hl 1 rfl) ?_
              refine lv_dup2_11 hx hb dX11_sends_84 rfl rfl ?_
              have hin_86 : vp_in f 4 := vpi_of (by omega) (by omega)
              refine va_iald hx hb hK hP 27 0 mw_at45 rfl hin_86 dX11_sends_85 ?_
              refine lv_topi (fun x_87 ex_87 => ?_)
              have hE := bd_at ex_87 hE
              have u_x_87 := congrArg Int32.toInt ex_87
              have q_x_87 : x_87.toInt = x_81.toInt := congrArg Int32.toInt (ex_87.trans ((congrFun (hf_85.2.2 45 (by decide)) _).trans (ex_81.symm)))
              have r_x_87 := rg_ld (MB_nxt hI) hin_86 ex_87
              refine lv_iconst (v := 1) hx hb dX11_sends_86 (by decide) ?_
              refine lv_iadd hx hb dX11_sends_87 ?_
              refine lv_topi (fun x_88 ex_88 => ?_)
              have hE := bd_at ex_88 hE
              try have t_x_88 := ti_add ex_88 (by omega) (by omega)
              have hin_89 : vp_in f 4 := vpi_of (by omega) (by omega)
              refine va_iast hx hb hK hP hD hS 27 0 mw_at45 rfl hin_89 dX11_sends_88 (fun H locs hP hD hS => ?_)
              have hP : va_P D vwCl (mw cI cZ h0 mq mi_83 (va_up ma_84 45 (upd (ma_84 45) f.toNatClampNeg x_88))) H := mwP_45 hP
              have hD : va_D A (mw cI cZ h0 mq mi_83 (va_up ma_84 45 (upd (ma_84 45) f.toNatClampNeg x_88))) := mwD_45 hD
              generalize hma_90 : va_up ma_84 45 (upd (ma_84 45) f.toNatClampNeg x_88) = ma_90 at hP hD
              have hI : MB mi_83 ma_90 := by rw [← hma_90]; exact MBa_nxt hI (by omega) (by omega) (by have b4 := hf_85.2.2 44 (by decide); have b7 := congrArg Int32.toInt (congrFun b4 f.toNatClampNeg); omega)
              have hFA : ∀ k, k ∉ ([31, 7, 8, 9, 59, 69, 46, 70, 61, 72, 45] : List Nat) → ma_90 k = ma0 k := fun k hk => by rw [← hma_90]; exact (va_up_ne _ _ (fun e => hk (by rw [e]; decide))).trans (hFA k hk)
              have hE := bs_at hma_90 hE
              refine lv_goto (tgt := 0) hx hb dX11_sends_89 (by decide) ?_
              exact ih_0 mi_83 ma_90  _ _ hP hD hS hI hFI hFA hE _ (lv_sub hl [0, 1] rfl) (by have b1 : ma_90 44 = ma_84 44 := (congrFun hma_90 44).symm; have b2 : ma_90 72 = ma_84 72 := (congrFun hma_90 72).symm; have b3 : ma_90 45 f.toNatClampNeg = x_88 := (congrFun (congrFun hma_90 45) f.toNatClampNeg).symm.trans (if_pos rfl); have b4 := hf_85.2.2 44 (by decide); have b5 := hf_85.2.2 72 (by decide); have b6 : (ma_90 45 f.toNatClampNeg).toInt = x_88.toInt := congrArg Int32.toInt b3; rw [b1, b2, b4, b5, g_44, g_72, f_44, f_72]; omega)
            · have t_c_79 := congrArg Int32.toInt c_79
              have hE := hE.trans (if_pos c_79)
              refine lv_goto (tgt := 92) hx hb dX11_sends_65 (by decide) ?_
              refine lv_aload_n hx hb dX11_sends_92 rfl (lv_at hl 0 rfl) ?_
              refine va_get (D := D) (ci := 11) (v := .ref (mq 60)) (C := RX11) (T := TX11) (N := 74) hx hb ha inlX11 hown hK hP 0 mw_at0 rfl 60 (by decide) (ha _ kf_X11_148) (fun _ h9 => h9) rfl dX11_sends_93 ?_
              refine lv_iload_n hx hb dX11_sends_96 rfl (lv_at hl 1 rfl) ?_
              have hin_91 : vp_in f 4 := vpi_of (by omega) (by omega)
              refine va_iald hx hb hK hP 42 0 mw_at60 rfl hin_91 dX11_sends_97 ?_
              refine lv_topi (fun x_92 ex_92 => ?_)
              have hE := bd_at ex_92 hE
              have u_x_92 := congrArg Int32.toInt ex_92
              have r_x_92 := rg_ld (MB_w hI) hin_91 ex_92
              refine lv_if_ne (tgt := 158) hx hb dX11_sends_98 (by decide) (fun c_93 => ?_) (fun c_93 => ?_)
              · have t_c_93 := mt Int32.toInt_inj.mp c_93
                have hE := hE.trans (if_neg c_93)
                rw [hQP]
                exact W.vret hx hb hr (fun t ht hW => ⟨⟨(), rfl, trivial, ⟨mi_76, ma_77, ⟨⟨hI, fun k hk => (hFI k hk).trans (by rw [hmi0]), fun k hk => (hFA k hk).trans (by rw [hma0])⟩, _, hRES.symm.trans hE⟩, by rw [ht]; exact hP, va_K.moved hW.alike hK, hD⟩⟩, hS.F ht⟩) hS.2.2 dX11_sends_158
              · have t_c_93 := congrArg Int32.toInt c_93
                have hE := hE.trans (if_pos c_93)
                refine lv_aload_n hx hb dX11_sends_101 rfl (lv_at hl 0 rfl) ?_
                refine va_get (D := D) (ci := 11) (v := .ref (mq 45)) (C := RX11) (T := TX11) (N := 74) hx hb ha inlX11 hown hK hP 0 mw_at0 rfl 45 (by decide) (ha _ kf_X11_103) (fun _ h9 => h9) rfl dX11_sends_102 ?_
                refine lv_iload_n hx hb dX11_sends_105 rfl (lv_at hl 1 rfl) ?_
                have hin_94 : vp_in f 4 := vpi_of (by omega) (by omega)
                refine va_iald hx hb hK hP 27 0 mw_at45 rfl hin_94 dX11_sends_106 ?_
                refine lv_topi (fun x_95 ex_95 => ?_)
                have hE := bd_at ex_95 hE
                have u_x_95 := congrArg Int32.toInt ex_95
                have r_x_95 := rg_ld (MB_nxt hI) hin_94 ex_95
                refine lv_aload_n hx hb dX11_sends_107 rfl (lv_at hl 0 rfl) ?_
                refine va_get (D := D) (ci := 11) (v := .ref (mq 44)) (C := RX11) (T := TX11) (N := 74) hx hb ha inlX11 hown hK hP 0 mw_at0 rfl 44 (by decide) (ha _ kf_X11_100) (fun _ h9 => h9) rfl dX11_sends_108 ?_
                refine lv_iload_n hx hb dX11_sends_111 rfl (lv_at hl 1 rfl) ?_
                have hin_96 : vp_in f 4 := vpi_of (by omega) (by omega)
                refine va_iald hx hb hK hP 26 0 mw_at44 rfl hin_96 dX11_sends_112 ?_
                refine lv_topi (fun x_97 ex_97 => ?_)
                have hE := bd_at ex_97 hE
                have u_x_97 := congrArg Int32.toInt ex_97
                have r_x_97 := rg_ld (MB_una hI) hin_96 ex_97
                refine lv_icmp_ne (tgt := 158) hx hb dX11_sends_113 (by decide) (fun c_98 => ?_) (fun c_98 => ?_)
                · have t_c_98 := mt Int32.toInt_inj.mp c_98
                  have hE := hE.trans (if_neg c_98)
                  rw [hQP]
                  exact W.vret hx hb hr (fun t ht hW => ⟨⟨(), rfl, trivial, ⟨mi_76, ma_77, ⟨⟨hI, fun k hk => (hFI k hk).trans (by rw [hmi0]), fun k hk => (hFA k hk).trans (by rw [hma0])⟩, _, hRES.symm.trans hE⟩, by rw [ht]; exact hP, va_K.moved hW.alike hK, hD⟩⟩, hS.F ht⟩) hS.2.2 dX11_sends_158
                · have t_c_98 := congrArg Int32.toInt c_98
                  have hE := hE.trans (if_pos c_98)
                  refine lv_aload_n hx hb dX11_sends_116 rfl (lv_at hl 0 rfl) ?_
                  refine va_get (D := D) (ci := 11) (v := .ref (mq 45)) (C := RX11) (T := TX11) (N := 74) hx hb ha inlX11 hown hK hP 0 mw_at0 rfl 45 (by decide) (ha _ kf_X11_103) (fun _ h9 => h9) rfl dX11_sends_117 ?_
                  refine lv_iload_n hx hb dX11_sends_120 rfl (lv_at hl 1 rfl) ?_
                  have hin_99 : vp_in f 4 := vpi_of (by omega) (by omega)
                  refine va_iald hx hb hK hP 27 0 mw_at45 rfl hin_99 dX11_sends_121 ?_
                  refine lv_topi (fun x_100 ex_100 => ?_)
                  have hE := bd_at ex_100 hE
                  have u_x_100 := congrArg Int32.toInt ex_100
                  have r_x_100 := rg_ld (MB_nxt hI) hin_99 ex_100
                  refine lv_aload_n hx hb dX11_sends_122 rfl (lv_at hl 0 rfl) ?_
                  refine va_get (D := D) (ci := 11) (v := .ref (mq 43)) (C := RX11) (T := TX11) (N := 74) hx hb ha inlX11 hown hK hP 0 mw_at0 rfl 43 (by decide) (ha _ kf_X11_97) (fun _ h9 => h9) rfl dX11_sends_123 ?_
                  refine lv_iload_n hx hb dX11_sends_126 rfl (lv_at hl 1 rfl) ?_
                  have hin_101 : vp_in f 4 := vpi_of (by omega) (by omega)
                  refine va_iald hx hb hK hP 25 0 mw_at43 rfl hin_101 dX11_sends_127 ?_
                  refine lv_topi (fun x_102 ex_102 => ?_)
                  have hE := bd_at ex_102 hE
                  have u_x_102 := congrArg Int32.toInt ex_102
                  have r_x_102 := rg_ld (MB_all hI) hin_101 ex_102
                  refine lv_icmp_ge (tgt := 158) hx hb dX11_sends_128 (by decide) (fun c_103 => ?_) (fun c_103 => ?_)
                  · have t_c_103 := Int32.le_iff_toInt_le.mp c_103
                    have hE := hE.trans (if_pos c_103)
                    rw [hQP]
                    exact W.vret hx hb hr (fun t ht hW => ⟨⟨(), rfl, trivial, ⟨mi_76, ma_77, ⟨⟨hI, fun k hk => (hFI k hk).trans (by rw [hmi0]), fun k hk => (hFA k hk).trans (by rw [hma0])⟩, _, hRES.symm.trans hE⟩, by rw [ht]; exact hP, va_K.moved hW.alike hK, hD⟩⟩, hS.F ht⟩) hS.2.2 dX11_sends_158
                  · have t_c_103 := Int32.lt_iff_toInt_lt.mp (Int32.not_le.mp c_103)
                    have hE := hE.trans (if_neg c_103)
                    refine lv_aload_n hx hb dX11_sends_131 rfl (lv_at hl 0 rfl) ?_
                    refine va_get (D := D) (ci := 11) (v := .ref (mq 61)) (C := RX11) (T := TX11) (N := 74) hx hb ha inlX11 hown hK hP 0 mw_at0 rfl 61 (by decide) (ha _ kf_X11_151) (fun _ h9 => h9) rfl dX11_sends_132 ?_
                    refine lv_iload_n hx hb dX11_sends_135 rfl (lv_at hl 1 rfl) ?_
                    have hin_104 : vp_in f 4 := vpi_of (by omega) (by omega)
                    refine va_iald hx hb hK hP 43 0 mw_at61 rfl hin_104 dX11_sends_136 ?_
                    refine lv_topi (fun x_105 ex_105 => ?_)
                    have hE := bd_at ex_105 hE
                    have u_x_105 := congrArg Int32.toInt ex_105
                    refine lv_iconst (v := (-1)) hx hb dX11_sends_137 (by decide) ?_
                    refine lv_icmp_ne (tgt := 158) hx hb dX11_sends_138 (by decide) (fun c_106 => ?_) (fun c_106 => ?_)
                    · have t_c_106 := mt Int32.toInt_inj.mp c_106
                      have hE := hE.trans (if_neg c_106)
                      rw [hQP]
                      exact W.vret hx hb hr (fun t ht hW => ⟨⟨(), rfl, trivial, ⟨mi_76, ma_77, ⟨⟨hI, fun k hk => (hFI k hk).trans (by rw [hmi0]), fun k hk => (hFA k hk).trans (by rw [hma0])⟩, _, hRES.symm.trans hE⟩, by rw [ht]; exact hP, va_K.moved hW.alike hK, hD⟩⟩, hS.F ht⟩) hS.2.2 dX11_sends_158
                    · have t_c_106 := congrArg Int32.toInt c_106
                      have hE := hE.trans (if_pos c_106)
                      refine lv_aload_n hx hb dX11_sends_141 rfl (lv_at hl 0 rfl) ?_
                      refine va_get (D := D) (ci := 11) (v := .ref (mq 61)) (C := RX11) (T := TX11) (N := 74) hx hb ha inlX11 hown hK hP 0 mw_at0 rfl 61 (by decide) (ha _ kf_X11_151) (fun _ h9 => h9) rfl dX11_sends_142 ?_
                      refine lv_iload_n hx hb dX11_sends_145 rfl (lv_at hl 1 rfl) ?_
                      refine lv_aload_n hx hb dX11_sends_146 rfl (lv_at hl 0 rfl) ?_
                      refine va_get (D := D) (ci := 11) (v := .int (mi_76 4)) (C := RX11) (T := TX11) (N := 74) hx hb ha inlX11 hown hK hP 0 mw_at0 rfl 4 (by decide) (ha _ kf_X11_207) (fun _ h9 => h9) rfl dX11_sends_147 ?_
                      refine lv_topi (fun x_107 ex_107 => ?_)
                      have hE := bd_at ex_107 hE
                      have u_x_107 := congrArg Int32.toInt ex_107
                      have r_x_107 := MB_tick hI
                      rw [← ex_107] at r_x_107
                      refine lv_aload_n hx hb dX11_sends_150 rfl (lv_at hl 0 rfl) ?_
                      refine va_get (D := D) (ci := 11) (v := .ref (mq 49)) (C := RX11) (T := TX11) (N := 74) hx hb ha inlX11 hown hK hP 0 mw_at0 rfl 49 (by decide) (ha _ kf_X11_115) (fun _ h9 => h9) rfl dX11_sends_151 ?_
                      refine lv_iload_n hx hb dX11_sends_154 rfl (lv_at hl 1 rfl) ?_
                      have hin_108 : vp_in f 4 := vpi_of (by omega) (by omega)
                      refine va_iald hx hb hK hP 31 0 mw_at49 rfl hin_108 dX11_sends_155 ?_
                      refine lv_topi (fun x_109 ex_109 => ?_)
                      have hE := bd_at ex_109 hE
                      have u_x_109 := congrArg Int32.toInt ex_109
                      refine lv_iadd hx hb dX11_sends_156 ?_
                      refine lv_topi (fun x_110 ex_110 => ?_)
                      have hE := bd_at ex_110 hE
                      have hin_111 : vp_in f 4 := vpi_of (by omega) (by omega)
                      refine va_iast hx hb hK hP hD hS 43 0 mw_at61 rfl hin_111 dX11_sends_157 (fun H locs hP hD hS => ?_)
                      have hP : va_P D vwCl (mw cI cZ h0 mq mi_76 (va_up ma_77 61 (upd (ma_77 61) f.toNatClampNeg x_110))) H := mwP_61 hP
                      have hD : va_D A (mw cI cZ h0 mq mi_76 (va_up ma_77 61 (upd (ma_77 61) f.toNatClampNeg x_110))) := mwD_61 hD
                      generalize hma_112 : va_up ma_77 61 (upd (ma_77 61) f.toNatClampNeg x_110) = ma_112 at hP hD
                      have hI : MB mi_76 ma_112 := by rw [← hma_112]; exact MBa_timer hI
                      have hFA : ∀ k, k ∉ ([31, 7, 8, 9, 59, 69, 46, 70, 61, 72, 45] : List Nat) → ma_112 k = ma0 k := fun k hk => by rw [← hma_112]; exact (va_up_ne _ _ (fun e => hk (by rw [e]; decide))).trans (hFA k hk)
                      have hE := bs_at hma_112 hE
                      rw [hQP]
                      exact W.vret hx hb hr (fun t ht hW => ⟨⟨(), rfl, trivial, ⟨mi_76, ma_112, ⟨⟨hI, fun k hk => (hFI k hk).trans (by rw [hmi0]), fun k hk => (hFA k hk).trans (by rw [hma0])⟩, _, hRES.symm.trans hE⟩, by rw [ht]; exact hP, va_K.moved hW.alike hK, hD⟩⟩, hS.F ht⟩) hS.2.2 dX11_sends_158
          · have t_c_74 := mt Int32.toInt_inj.mp c_74
            have hE := hE.trans (if_neg c_74)
            refine lv_aload_n hx hb dX11_sends_37 rfl (lv_at hl 0 rfl) ?_
            refine va_get (D := D) (ci := 11) (v := .int (mi_2 73)) (C := RX11) (T := TX11) (N := 74) hx hb ha inlX11 hown hK hP 0 mw_at0 rfl 73 (by decide) (ha _ kf_X11_335) (fun _ h9 => h9) rfl dX11_sends_38 ?_
            refine lv_topi (fun x_113 ex_113 => ?_)
            have hE := bd_at ex_113 hE
            have u_x_113 := congrArg Int32.toInt ex_113
            refine lv_iconst (v := (-1)) hx hb dX11_sends_41 (by decide) ?_
            refine lv_icmp_eq (tgt := 57) hx hb dX11_sends_42 (by decide) (fun c_114 => ?_) (fun c_114 => ?_)
            · have t_c_114 := congrArg Int32.toInt c_114
              have hE := hE.trans (if_pos c_114)
              refine lv_aload_n hx hb dX11_sends_57 rfl (lv_at hl 0 rfl) ?_
              refine lv_iload_n hx hb dX11_sends_58 rfl (lv_at hl 1 rfl) ?_
              have hFc := va_freeW hD hS hA
              refine va_calli (va_runV (As := [.int f]) (rest := []) ⟨hx, hb, hml, hown, ha⟩ (m_mayNext l D cI cJ cZ cO _ h0 mq mi_2 ma_3 ph cl f hI hf0 hf4) (cwV 1 ha (gaV kl_X11_344 km_X11_mayNext ks_X11_mayNext kz_X11 kd_X11_mayNext) rfl rfl rfl (by decide +kernel) ⟨Nat.le_of_ble_eq_true rfl, Nat.le_of_ble_eq_true rfl⟩) ⟨pw_blind, va_recv hK hP (ci := 11) (q0 := 0) rfl rfl, fun U hU hW => ⟨rfl, pw_start hU hW hP hK hD hN⟩⟩ rfl rfl hl.1 rfl (lv_room (Nat.le_of_ble_eq_true rfl)) dX11_sends_59 ⟨Nat.le_of_ble_eq_true rfl, Nat.le_of_ble_eq_true rfl⟩) hS (fun q _ h => hFc q h) hFc (fun r_115 u t H1 locs ht hvm hw hB hz1 hk1 hS => ?_)
              obtain ⟨mi_116, ma_117, ⟨hf_118, hX1, hX2⟩, hP, hK1, hD1⟩ := hB
              have hE := bc_at hX1 hX2 hw.2 hE
              rw [ht] at hP
              have hD := hD1.weaken (fun k q _ h => hFc q.1 h)
              clear hD1
              generalize H1 = H at hP hS ⊢
              refine W.widen (k := 0) (n := 0) (Nat.le_refl _) (Nat.le_refl _) ?_
              have hI := hf_118.1
              have hFI : ∀ k, k ∉ ([26, 30, 28, 27, 6, 5, 73] : List Nat) → mi_116 k = mi0 k := fun k hk => (hf_118.2.1 k (fun h => hk (by revert h; exact sub_of (by decide) k))).trans (hFI k hk)
              have hFA : ∀ k, k ∉ ([31, 7, 8, 9, 59, 69, 46, 70, 61, 72, 45] : List Nat) → ma_117 k = ma0 k := fun k hk => (hf_118.2.2 k (fun h => hk (by revert h; exact sub_of (by decide) k))).trans (hFA k hk)
              have hr_115 := hw.1
              have hmay := hr_115
              have hmf := hf_118
              have g_44 : ma_117 44 = ma_3 44 := hf_118.2.2 44 (by decide)
              have g_45 : ma_117 45 = ma_3 45 := hf_118.2.2 45 (by decide)
              have g_72 : ma_117 72 = ma_3 72 := hf_118.2.2 72 (by decide)
              have gi_44 := congrArg Int32.toInt (congrFun g_44 f.toNatClampNeg)
              have gi_45 := congrArg Int32.toInt (congrFun g_45 f.toNatClampNeg)
              refine lv_if_ne (tgt := 68) hx hb dX11_sends_62 (by decide) (fun c_119 => ?_) (fun c_119 => ?_)
              · have t_c_119 := mt Int32.toInt_inj.mp c_119
                have hE := hE.trans (if_neg c_119)
                refine lv_aload_n hx hb dX11_sends_68 rfl (lv_at hl 0 rfl) ?_
                refine lv_iload_n hx hb dX11_sends_69 rfl (lv_at hl 1 rfl) ?_
                refine lv_aload_n hx hb dX11_sends_70 rfl (lv_at hl 0 rfl) ?_
                refine va_get (D := D) (ci := 11) (v := .ref (mq 45)) (C := RX11) (T := TX11) (N := 74) hx hb ha inlX11 hown hK hP 0 mw_at0 rfl 45 (by decide) (ha _ kf_X11_103) (fun _ h9 => h9) rfl dX11_sends_71 ?_
                refine lv_iload_n hx hb dX11_sends_74 rfl (lv_at hl 1 rfl) ?_
                have hin_120 : vp_in f 4 := vpi_of (by omega) (by omega)
                refine va_iald hx hb hK hP 27 0 mw_at45 rfl hin_120 dX11_sends_75 ?_
                refine lv_topi (fun x_121 ex_121 => ?_)
                have hE := bd_at ex_121 hE
                have u_x_121 := congrArg Int32.toInt ex_121
                have r_x_121 := rg_ld (MB_nxt hI) hin_120 ex_121
                have hmn := hmay.2 c_119
                have hFc := va_freeW hD hS hA
                refine va_callv (va_runV (As := [.int f, .int x_121]) (rest := []) ⟨hx, hb, hml, hown, ha⟩ (m_sendsOne l D cI cJ cZ cO _ h0 mq mi_116 ma_117 ph cl f x_121 hI hf0 hf4 (by rw [hFI 32 (by decide), hmi0]; omega) (by omega) (by omega) (by omega)) (cwV 2 ha (gaV kl_X11_332 km_X11_sendsOne ks_X11_sendsOne kz_X11 kd_X11_sendsOne) rfl rfl rfl (by decide +kernel) ⟨Nat.le_of_ble_eq_true rfl, Nat.le_of_ble_eq_true rfl⟩) ⟨pw_blind, va_recv hK hP (ci := 11) (q0 := 0) rfl rfl, fun U hU hW => ⟨rfl, pw_start hU hW hP hK hD hN⟩⟩ rfl rfl hl.1 rfl (lv_room (Nat.le_of_ble_eq_true rfl)) dX11_sends_76 ⟨Nat.le_of_ble_eq_true rfl, Nat.le_of_ble_eq_true rfl⟩) hS (fun q _ h => hFc q h) hFc (fun u t H1 locs ht hvm hw hB hz1 hk1 hS => ?_)
                obtain ⟨mi_123, ma_124, ⟨hf_125, hX1, hX2⟩, hP, hK1, hD1⟩ := hB
                have hE := bc_atv hX1 hX2 hE
                rw [ht] at hP
                have hD := hD1.weaken (fun k q _ h => hFc q.1 h)
                clear hD1
                generalize H1 = H at hP hS ⊢
                refine W.widen (k := 0) (n := 0) (Nat.le_refl _) (Nat.le_refl _) ?_
                have hI := hf_125.1
                have hFI : ∀ k, k ∉ ([26, 30, 28, 27, 6, 5, 73] : List Nat) → mi_123 k = mi0 k := fun k hk => (hf_125.2.1 k (fun h => hk (by revert h; exact sub_of (by decide) k))).trans (hFI k hk)
                have hFA : ∀ k, k ∉ ([31, 7, 8, 9, 59, 69, 46, 70, 61, 72, 45] : List Nat) → ma_124 k = ma0 k := fun k hk => (hf_125.2.2 k (fun h => hk (by revert h; exact sub_of (by decide) k))).trans (hFA k hk)
                refine lv_aload_n hx hb dX11_sends_79 rfl (lv_at hl 0 rfl) ?_
                refine va_get (D := D) (ci := 11) (v := .ref (mq 45)) (C := RX11) (T := TX11) (N := 74) hx hb ha inlX11 hown hK hP 0 mw_at0 rfl 45 (by decide) (ha _ kf_X11_103) (fun _ h9 => h9) rfl dX11_sends_80 ?_
                refine lv_iload_n hx hb dX11_sends_83 rfl (lv_at hl 1 rfl) ?_
                refine lv_dup2_11 hx hb dX11_sends_84 rfl rfl ?_
                have hin_126 : vp_in f 4 := vpi_of (by omega) (by omega)
                refine va_iald hx hb hK hP 27 0 mw_at45 rfl hin_126 dX11_sends_85 ?_
                refine lv_topi (fun x_127 ex_127 => ?_)
                have hE := bd_at ex_127 hE
                have u_x_127 := congrArg Int32.toInt ex_127
                have q_x_127 : x_127.toInt = x_121.toInt := congrArg Int32.toInt (ex_127.trans ((congrFun (hf_125.2.2 45 (by decide)) _).trans (ex_121.symm)))
                have r_x_127 := rg_ld (MB_nxt hI) hin_126 ex_127
                refine lv_iconst (v := 1) hx hb dX11_sends_86 (by decide) ?_
                refine lv_iadd hx hb dX11_sends_87 ?_
                refine lv_topi (fun x_128 ex_128 => ?_)
                have hE := bd_at ex_128 hE
                try have t_x_128 := ti_add ex_128 (by omega) (by omega)
                have hin_129 : vp_in f 4 := vpi_of (by omega) (by omega)
                refine va_iast hx hb hK hP hD hS 27 0 mw_at45 rfl hin_129 dX11_sends_88 (fun H locs hP hD hS => ?_)
                have hP : va_P D vwCl (mw cI cZ h0 mq mi_123 (va_up ma_124 45 (upd (ma_124 45) f.toNatClampNeg x_128))) H := mwP_45 hP
                have hD : va_D A (mw cI cZ h0 mq mi_123 (va_up ma_124 45 (upd (ma_124 45) f.toNatClampNeg x_128))) := mwD_45 hD
                generalize hma_130 : va_up ma_124 45 (upd (ma_124 45) f.toNatClampNeg x_128) = ma_130 at hP hD
                have hI : MB mi_123 ma_130 := by rw [← hma_130]; exact MBa_nxt hI (by omega) (by omega) (by have b4 := hf_125.2.2 44 (by decide); have b7 := congrArg Int32.toInt (congrFun b4 f.toNatClampNeg); omega)
                have hFA : ∀ k, k ∉ ([31, 7, 8, 9, 59, 69, 46, 70, 61, 72, 45] : List Nat) → ma_130 k = ma0 k := fun k hk => by rw [← hma_130]; exact (va_up_ne _ _ (fun e => hk (by rw [e]; decide))).trans (hFA k hk)
                have hE := bs_at hma_130 hE
                refine lv_goto (tgt := 0) hx hb dX11_sends_89 (by decide) ?_
                exact ih_0 mi_123 ma_130  _ _ hP hD hS hI hFI hFA hE _ (lv_sub hl [0, 1] rfl) (by have b1 : ma_130 44 = ma_124 44 := (congrFun hma_130 44).symm; have b2 : ma_130 72 = ma_124 72 := (congrFun hma_130 72).symm; have b3 : ma_130 45 f.toNatClampNeg = x_128 := (congrFun (congrFun hma_130 45) f.toNatClampNeg).symm.trans (if_pos rfl); have b4 := hf_125.2.2 44 (by decide); have b5 := hf_125.2.2 72 (by decide); have b6 : (ma_130 45 f.toNatClampNeg).toInt = x_128.toInt := congrArg Int32.toInt b3; rw [b1, b2, b4, b5, g_44, g_72, f_44, f_72]; omega)
              · have t_c_119 := congrArg Int32.toInt c_119
                have hE := hE.trans (if_pos c_119)
                refine lv_goto (tgt := 92) hx hb dX11_sends_65 (by decide) ?_
                refine lv_aload_n hx hb dX11_sends_92 rfl (lv_at hl 0 rfl) ?_
                refine va_get (D := D) (ci := 11) (v := .ref (mq 60)) (C := RX11) (T := TX11) (N := 74) hx hb ha inlX11 hown hK hP 0 mw_at0 rfl 60 (by decide) (ha _ kf_X11_148) (fun _ h9 => h9) rfl dX11_sends_93 ?_
                refine lv_iload_n hx hb dX11_sends_96 rfl (lv_at hl 1 rfl) ?_
                have hin_131 : vp_in f 4 := vpi_of (by omega) (by omega)
                refine va_iald hx hb hK hP 42 0 mw_at60 rfl hin_131 dX11_sends_97 ?_
                refine lv_topi (fun x_132 ex_132 => ?_)
                have hE := bd_at ex_132 hE
                have u_x_132 := congrArg Int32.toInt ex_132
                have r_x_132 := rg_ld (MB_w hI) hin_131 ex_132
                refine lv_if_ne (tgt := 158) hx hb dX11_sends_98 (by decide) (fun c_133 => ?_) (fun c_133 => ?_)
                · have t_c_133 := mt Int32.toInt_inj.mp c_133
                  have hE := hE.trans (if_neg c_133)
                  rw [hQP]
                  exact W.vret hx hb hr (fun t ht hW => ⟨⟨(), rfl, trivial, ⟨mi_116, ma_117, ⟨⟨hI, fun k hk => (hFI k hk).trans (by rw [hmi0]), fun k hk => (hFA k hk).trans (by rw [hma0])⟩, _, hRES.symm.trans hE⟩, by rw [ht]; exact hP, va_K.moved hW.alike hK, hD⟩⟩, hS.F ht⟩) hS.2.2 dX11_sends_158
                · have t_c_133 := congrArg Int32.toInt c_133
                  have hE := hE.trans (if_pos c_133)
                  refine lv_aload_n hx hb dX11_sends_101 rfl (lv_at hl 0 rfl) ?_
                  refine va_get (D := D) (ci := 11) (v := .ref (mq 45)) (C := RX11) (T := TX11) (N := 74) hx hb ha inlX11 hown hK hP 0 mw_at0 rfl 45 (by decide) (ha _ kf_X11_103) (fun _ h9 => h9) rfl dX11_sends_102 ?_
                  refine lv_iload_n hx hb dX11_sends_105 rfl (lv_at hl 1 rfl) ?_
                  have hin_134 : vp_in f 4 := vpi_of (by omega) (by omega)
                  refine va_iald hx hb hK hP 27 0 mw_at45 rfl hin_134 dX11_sends_106 ?_
                  refine lv_topi (fun x_135 ex_135 => ?_)
                  have hE := bd_at ex_135 hE
                  have u_x_135 := congrArg Int32.toInt ex_135
                  have r_x_135 := rg_ld (MB_nxt hI) hin_134 ex_135
                  refine lv_aload_n hx hb dX11_sends_107 rfl (lv_at hl 0 rfl) ?_
                  refine va_get (D := D) (ci := 11) (v := .ref (mq 44)) (C := RX11) (T := TX11) (N := 74) hx hb ha inlX11 hown hK hP 0 mw_at0 rfl 44 (by decide) (ha _ kf_X11_100) (fun _ h9 => h9) rfl dX11_sends_108 ?_
                  refine lv_iload_n hx hb dX11_sends_111 rfl (lv_at hl 1 rfl) ?_
                  have hin_136 : vp_in f 4 := vpi_of (by omega) (by omega)
                  refine va_iald hx hb hK hP 26 0 mw_at44 rfl hin_136 dX11_sends_112 ?_
                  refine lv_topi (fun x_137 ex_137 => ?_)
                  have hE := bd_at ex_137 hE
                  have u_x_137 := congrArg Int32.toInt ex_137
                  have r_x_137 := rg_ld (MB_una hI) hin_136 ex_137
                  refine lv_icmp_ne (tgt := 158) hx hb dX11_sends_113 (by decide) (fun c_138 => ?_) (fun c_138 => ?_)
                  · have t_c_138 := mt Int32.toInt_inj.mp c_138
                    have hE := hE.trans (if_neg c_138)
                    rw [hQP]
                    exact W.vret hx hb hr (fun t ht hW => ⟨⟨(), rfl, trivial, ⟨mi_116, ma_117, ⟨⟨hI, fun k hk => (hFI k hk).trans (by rw [hmi0]), fun k hk => (hFA k hk).trans (by rw [hma0])⟩, _, hRES.symm.trans hE⟩, by rw [ht]; exact hP, va_K.moved hW.alike hK, hD⟩⟩, hS.F ht⟩) hS.2.2 dX11_sends_158
                  · have t_c_138 := congrArg Int32.toInt c_138
                    have hE := hE.trans (if_pos c_138)
                    refine lv_aload_n hx hb dX11_sends_116 rfl (lv_at hl 0 rfl) ?_
                    refine va_get (D := D) (ci := 11) (v := .ref (mq 45)) (C := RX11) (T := TX11) (N := 74) hx hb ha inlX11 hown hK hP 0 mw_at0 rfl 45 (by decide) (ha _ kf_X11_103) (fun _ h9 => h9) rfl dX11_sends_117 ?_
                    refine lv_iload_n hx hb dX11_sends_120 rfl (lv_at hl 1 rfl) ?_
                    have hin_139 : vp_in f 4 := vpi_of (by omega) (by omega)
                    refine va_iald hx hb hK hP 27 0 mw_at45 rfl hin_139 dX11_sends_121 ?_
                    refine lv_topi (fun x_140 ex_140 => ?_)
                    have hE := bd_at ex_140 hE
                    have u_x_140 := congrArg Int32.toInt ex_140
                    have r_x_140 := rg_ld (MB_nxt hI) hin_139 ex_140
                    refine lv_aload_n hx hb dX11_sends_122 rfl (lv_at hl 0 rfl) ?_
                    refine va_get (D := D) (ci := 11) (v := .ref (mq 43)) (C := RX11) (T := TX11) (N := 74) hx hb ha inlX11 hown hK hP 0 mw_at0 rfl 43 (by decide) (ha _ kf_X11_97) (fun _ h9 => h9) rfl dX11_sends_123 ?_
                    refine lv_iload_n hx hb dX11_sends_126 rfl (lv_at hl 1 rfl) ?_
                    have hin_141 : vp_in f 4 := vpi_of (by omega) (by omega)
                    refine va_iald hx hb hK hP 25 0 mw_at43 rfl hin_141 dX11_sends_127 ?_
                    refine lv_topi (fun x_142 ex_142 => ?_)
                    have hE := bd_at ex_142 hE
                    have u_x_142 := congrArg Int32.toInt ex_142
                    have r_x_142 := rg_ld (MB_all hI) hin_141 ex_142
                    refine lv_icmp_ge (tgt := 158) hx hb dX11_sends_128 (by decide) (fun c_143 => ?_) (fun c_143 => ?_)
                    · have t_c_143 := Int32.le_iff_toInt_le.mp c_143
                      have hE := hE.trans (if_pos c_143)
                      rw [hQP]
                      exact W.vret hx hb hr (fun t ht hW => ⟨⟨(), rfl, trivial, ⟨mi_116, ma_117, ⟨⟨hI, fun k hk => (hFI k hk).trans (by rw [hmi0]), fun k hk => (hFA k hk).trans (by rw [hma0])⟩, _, hRES.symm.trans hE⟩, by rw [ht]; exact hP, va_K.moved hW.alike hK, hD⟩⟩, hS.F ht⟩) hS.2.2 dX11_sends_158
                    · have t_c_143 := Int32.lt_iff_toInt_lt.mp (Int32.not_le.mp c_143)
                      have hE := hE.trans (if_neg c_143)
                      refine lv_aload_n hx hb dX11_sends_131 rfl (lv_at hl 0 rfl) ?_
                      refine va_get (D := D) (ci := 11) (v := .ref (mq 61)) (C := RX11) (T := TX11) (N := 74) hx hb ha inlX11 hown hK hP 0 mw_at0 rfl 61 (by decide) (ha _ kf_X11_151) (fun _ h9 => h9) rfl dX11_sends_132 ?_
                      refine lv_iload_n hx hb dX11_sends_135 rfl (lv_at hl 1 rfl) ?_
                      have hin_144 : vp_in f 4 := vpi_of (by omega) (by omega)
                      refine va_iald hx hb hK hP 43 0 mw_at61 rfl hin_144 dX11_sends_136 ?_
                      refine lv_topi (fun x_145 ex_145 => ?_)
                      have hE := bd_at ex_145 hE
                      have u_x_145 := congrArg Int32.toInt ex_145
                      refine lv_iconst (v := (-1)) hx hb dX11_sends_137 (by decide) ?_
                      refine lv_icmp_ne (tgt := 158) hx hb dX11_sends_138 (by decide) (fun c_146 => ?_) (fun c_146 => ?_)
                      · have t_c_146 := mt Int32.toInt_inj.mp c_146
                        have hE := hE.trans (if_neg c_146)
                        rw [hQP]
                        exact W.vret hx hb hr (fun t ht hW => ⟨⟨(), rfl, trivial, ⟨mi_116, ma_117, ⟨⟨hI, fun k hk => (hFI k hk).trans (by rw [hmi0]), fun k hk => (hFA k hk).trans (by rw [hma0])⟩, _, hRES.symm.trans hE⟩, by rw [ht]; exact hP, va_K.moved hW.alike hK, hD⟩⟩, hS.F ht⟩) hS.2.2 dX11_sends_158
                      · have t_c_146 := congrArg Int32.toInt c_146
                        have hE := hE.trans (if_pos c_146)
                        refine lv_aload_n hx hb dX11_sends_141 rfl (lv_at hl 0 rfl) ?_
                        refine va_get (D := D) (ci := 11) (v := .ref (mq 61)) (C := RX11) (T := TX11) (N := 74) hx hb ha inlX11 hown hK hP 0 mw_at0 rfl 61 (by decide) (ha _ kf_X11_151) (fun _ h9 => h9) rfl dX11_sends_142 ?_
                        refine lv_iload_n hx hb dX11_sends_145 rfl (lv_at hl 1 rfl) ?_
                        refine lv_aload_n hx hb dX11_sends_146 rfl (lv_at hl 0 rfl) ?_
                        refine va_get (D := D) (ci := 11) (v := .int (mi_116 4)) (C := RX11) (T := TX11) (N := 74) hx hb ha inlX11 hown hK hP 0 mw_at0 rfl 4 (by decide) (ha _ kf_X11_207) (fun _ h9 => h9) rfl dX11_sends_147 ?_
                        refine lv_topi (fun x_147 ex_147 => ?_)
                        have hE := bd_at ex_147 hE
                        have u_x_147 := congrArg Int32.toInt ex_147
                        have r_x_147 := MB_tick hI
                        rw [← ex_147] at r_x_147
                        refine lv_aload_n hx hb dX11_sends_150 rfl (lv_at hl 0 rfl) ?_
                        refine va_get (D := D) (ci := 11) (v := .ref (mq 49)) (C := RX11) (T := TX11) (N := 74) hx hb ha inlX11 hown hK hP 0 mw_at0 rfl 49 (by decide) (ha _ kf_X11_115) (fun _ h9 => h9) rfl dX11_sends_151 ?_
                        refine lv_iload_n hx hb dX11_sends_154 rfl (lv_at hl 1 rfl) ?_
                        have hin_148 : vp_in f 4 := vpi_of (by omega) (by omega)
                        refine va_iald hx hb hK hP 31 0 mw_at49 rfl hin_148 dX11_sends_155 ?_
                        refine lv_topi (fun x_149 ex_149 => ?_)
                        have hE := bd_at ex_149 hE
                        have u_x_149 := congrArg Int32.toInt ex_149
                        refine lv_iadd hx hb dX11_sends_156 ?_
                        refine lv_topi (fun x_150 ex_150 => ?_)
                        have hE := bd_at ex_150 hE
                        have hin_151 : vp_in f 4 := vpi_of (by omega) (by omega)
                        refine va_iast hx hb hK hP hD hS 43 0 mw_at61 rfl hin_151 dX11_sends_157 (fun H locs hP hD hS => ?_)
                        have hP : va_P D vwCl (mw cI cZ h0 mq mi_116 (va_up ma_117 61 (upd (ma_117 61) f.toNatClampNeg x_150))) H := mwP_61 hP
                        have hD : va_D A (mw cI cZ h0 mq mi_116 (va_up ma_117 61 (upd (ma_117 61) f.toNatClampNeg x_150))) := mwD_61 hD
                        generalize hma_152 : va_up ma_117 61 (upd (ma_117 61) f.toNatClampNeg x_150) = ma_152 at hP hD
                        have hI : MB mi_116 ma_152 := by rw [← hma_152]; exact MBa_timer hI
                        have hFA : ∀ k, k ∉ ([31, 7, 8, 9, 59, 69, 46, 70, 61, 72, 45] : List Nat) → ma_152 k = ma0 k := fun k hk => by rw [← hma_152]; exact (va_up_ne _ _ (fun e => hk (by rw [e]; decide))).trans (hFA k hk)
                        have hE := bs_at hma_152 hE
                        rw [hQP]
                        exact W.vret hx hb hr (fun t ht hW => ⟨⟨(), rfl, trivial, ⟨mi_116, ma_152, ⟨⟨hI, fun k hk => (hFI k hk).trans (by rw [hmi0]), fun k hk => (hFA k hk).trans (by rw [hma0])⟩, _, hRES.symm.trans hE⟩, by rw [ht]; exact hP, va_K.moved hW.alike hK, hD⟩⟩, hS.F ht⟩) hS.2.2 dX11_sends_158
            · have t_c_114 := mt Int32.toInt_inj.mp c_114
              have hE := hE.trans (if_neg c_114)
              refine lv_aload_n hx hb dX11_sends_45 rfl (lv_at hl 0 rfl) ?_
              refine lv_iload_n hx hb dX11_sends_46 rfl (lv_at hl 1 rfl) ?_
              refine lv_aload_n hx hb dX11_sends_47 rfl (lv_at hl 0 rfl) ?_
              refine va_get (D := D) (ci := 11) (v := .int (mi_2 73)) (C := RX11) (T := TX11) (N := 74) hx hb ha inlX11 hown hK hP 0 mw_at0 rfl 73 (by decide) (ha _ kf_X11_335) (fun _ h9 => h9) rfl dX11_sends_48 ?_
              refine lv_topi (fun x_153 ex_153 => ?_)
              have hE := bd_at ex_153 hE
              have u_x_153 := congrArg Int32.toInt ex_153
              have hl2 := hll (by rw [← f_42, ← ex_32]; exact c_33) (by rw [← f_54, ← ex_73]; exact c_74)
              have hl3 : LLP x_153 (ma_3 44 f.toNatClampNeg) (ma_3 72) f := by rw [ex_153, f_44, f_72]; exact hl2
              have hl4 := hl3.resolve_left (fun q => c_114 (by rw [ex_113]; rw [ex_153] at q; exact q))
              have hu := rg_ld (MB_una hI) (vpi_of (n := 4) hf0 (by omega)) (rfl : ma_3 44 f.toNatClampNeg = _)
              have hFc := va_freeW hD hS hA
              refine va_callv (va_runV (As := [.int f, .int x_153]) (rest := []) ⟨hx, hb, hml, hown, ha⟩ (m_sendsAgain l D cI cJ cZ cO _ h0 mq mi_2 ma_3 ph cl f x_153 hI hf0 hf4 (by rw [hFI 32 (by decide), hmi0]; omega) (by omega) (by omega) (by omega)) (cwV 2 ha (gaV kl_X11_301 km_X11_sendsAgain ks_X11_sendsAgain kz_X11 kd_X11_sendsAgain) rfl rfl rfl (by decide +kernel) ⟨Nat.le_of_ble_eq_true rfl, Nat.le_of_ble_eq_true rfl⟩) ⟨pw_blind, va_recv hK hP (ci := 11) (q0 := 0) rfl rfl, fun U hU hW => ⟨rfl, pw_start hU hW hP hK hD hN⟩⟩ rfl rfl hl.1 rfl (lv_room (Nat.le_of_ble_eq_true rfl)) dX11_sends_51 ⟨Nat.le_of_ble_eq_true rfl, Nat.le_of_ble_eq_true rfl⟩) hS (fun q _ h => hFc q h) hFc (fun u t H1 locs ht hvm hw hB hz1 hk1 hS => ?_)
              obtain ⟨mi_155, ma_156, ⟨hf_157, hX1, hX2⟩, hP, hK1, hD1⟩ := hB
              have hE := bc_atv hX1 hX2 hE
              rw [ht] at hP
              have hD := hD1.weaken (fun k q _ h => hFc q.1 h)
              clear hD1
              generalize H1 = H at hP hS ⊢
              refine W.widen (k := 0) (n := 0) (Nat.le_refl _) (Nat.le_refl _) ?_
              have hI := hf_157.1
              have hFI : ∀ k, k ∉ ([26, 30, 28, 27, 6, 5, 73] : List Nat) → mi_155 k = mi0 k := fun k hk => (hf_157.2.1 k (fun h => hk (by revert h; exact sub_of (by decide) k))).trans (hFI k hk)
              have hFA : ∀ k, k ∉ ([31, 7, 8, 9, 59, 69, 46, 70, 61, 72, 45] : List Nat) → ma_156 k = ma0 k := fun k hk => (hf_157.2.2.1 k (fun h => hk (by revert h; exact sub_of (by decide) k))).trans (hFA k hk)
              refine lv_goto (tgt := 0) hx hb dX11_sends_54 (by decide) ?_
              exact ih_0 mi_155 ma_156  _ _ hP hD hS hI hFI hFA hE _ (lv_sub hl [0, 1] rfl) (by have b1 := hf_157.2.2.1 44 (by decide); have b2 := hf_157.2.2.1 45 (by decide); have b3 := hf_157.2.2.2; have b4 := zc_ll hf0 hf4 (by omega) hl4.2.2.2; rw [b1, b2, b3]; rw [f_44, f_45] at *; rw [f_72] at b4 ⊢; omega)
  -- from the entry
  rw [hQP] at J_0
  have hE := hRES
  unfold x_sends at hE
  exact J_0 (((ma 44 f.toNatClampNeg).toInt + 200 - (ma 45 f.toNatClampNeg).toInt).toNat + zc (ma 72) f.toNatClampNeg + 1) mi ma  _ _ hP hD hS hI hFI hFA hE _ (lv_sub hl [0, 1] rfl) (Nat.lt_succ_self _)

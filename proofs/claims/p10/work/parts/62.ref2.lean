set_option maxRecDepth 100000 in
def x_loses (f : Int32) (mi : Nat → Int32) (ma : Nat → Nat → Int32) : XT := bd (ma 42 f.toNatClampNeg) (fun v1 => (if v1 = (2 : Int32) then bd (ma 47 f.toNatClampNeg) (fun v2 => bd (ma 63 f.toNatClampNeg) (fun v3 => (if v3 ≤ v2 then bd (ma 47 f.toNatClampNeg) (fun v4 => bd (va_up ma 63 (upd (ma 63) f.toNatClampNeg v4)) (fun a5 => bd (a5 47 f.toNatClampNeg) (fun v6 => bd (v6 * (7 : Int32)) (fun v7 => bd (v7 / (10 : Int32)) (fun v8 => (if v8 ≤ (2048 : Int32) then bd (va_up a5 48 (upd (a5 48) f.toNatClampNeg (2048 : Int32))) (fun a9 => bd (va_up a9 67 (upd (a9 67) f.toNatClampNeg ((-1) : Int32))) (fun a10 => (mi, a10, 0))) else bd (va_up a5 48 (upd (a5 48) f.toNatClampNeg v8)) (fun a11 => bd (va_up a11 67 (upd (a11 67) f.toNatClampNeg ((-1) : Int32))) (fun a12 => (mi, a12, 0))))))))) else bd (ma 47 f.toNatClampNeg) (fun v13 => bd (v13 * (85 : Int32)) (fun v14 => bd (v14 / (100 : Int32)) (fun v15 => bd (va_up ma 63 (upd (ma 63) f.toNatClampNeg v15)) (fun a16 => bd (a16 47 f.toNatClampNeg) (fun v17 => bd (v17 * (7 : Int32)) (fun v18 => bd (v18 / (10 : Int32)) (fun v19 => (if v19 ≤ (2048 : Int32) then bd (va_up a16 48 (upd (a16 48) f.toNatClampNeg (2048 : Int32))) (fun a20 => bd (va_up a20 67 (upd (a20 67) f.toNatClampNeg ((-1) : Int32))) (fun a21 => (mi, a21, 0))) else bd (va_up a16 48 (upd (a16 48) f.toNatClampNeg v19)) (fun a22 => bd (va_up a22 67 (upd (a22 67) f.toNatClampNeg ((-1) : Int32))) (fun a23 => (mi, a23, 0)))))))))))))) else bd (ma 45 f.toNatClampNeg) (fun v24 => bd (ma 44 f.toNatClampNeg) (fun v25 => bd (v24 - v25) (fun v26 => bd (v26 * (512 : Int32)) (fun v27 => (if v27 ≤ (2048 : Int32) then bd (va_up ma 48 (upd (ma 48) f.toNatClampNeg (2048 : Int32))) (fun a28 => (mi, a28, 0)) else bd (va_up ma 48 (upd (ma 48) f.toNatClampNeg v27)) (fun a29 => (mi, a29, 0)))))))))
set_option maxHeartbeats 4000000 in
set_option maxRecDepth 100000 in
theorem m_loses (l : Launch) (D : va_G) (cI cJ cZ cO : ClassId) (sz : Nat) (h0 : Nat) (mq : Nat → Nat) (mi : Nat → Int32) (ma : Nat → Nat → Int32) (ph : Nat) (cl : Int) (f : Int32) (hI : MB mi ma) (hf0 : 0 ≤ f.toInt) (hf4 : f.toInt < 4) : Met l yX11_loses (wa yX11_loses cX11_loses 3 none) ({ frames := 0, cells := 0, slots := 0, locals := 0 }) (va_Pc [.ref h0, .int f] (pw_s D cI cJ cZ cO sz (mw cI cZ h0 mq mi ma))) (va_Qv (fun (_ : Unit) => True) (fun (_ : Unit) (t : State) => ∃ (mi2 : Nat → Int32) (ma2 : Nat → Nat → Int32), ((MB mi2 ma2 ∧ (∀ k, k ∉ ([] : List Nat) → mi2 k = mi k) ∧ (∀ k, k ∉ ([63, 48, 67] : List Nat) → ma2 k = ma k)) ∧ mi2 = (x_loses f mi ma).1 ∧ ma2 = (x_loses f mi ma).2.1) ∧ pw_t D cI cJ cZ cO (va_A (mw cI cZ h0 mq mi ma) sz) (mw cI cZ h0 mq mi2 ma2) t) (va_A (mw cI cZ h0 mq mi ma) sz)) 0 0 (va_A (mw cI cZ h0 mq mi ma) sz) := by
  refine Met.ofW (cc := cX11_loses) (maxL := 3) (ret := none) (by decide) rfl ?_
  intro p e s m args below meth c s₁ B hml hv
  obtain ⟨rfl, hsz, hP, hK, hD0, hN⟩ := hv
  have hx := B.exec
  have hb := B.bytes
  have hr := B.returns
  have hts := atoms_spec (ws := (wa yX11_loses cX11_loses 3 none)) B.pre
  have ha : ∀ w ∈ wsL_law, w.before _ s = true := fun w h => hts w (List.mem_cons_of_mem _ h)
  have hown : s.vm.findClass RX11 = some m.cls := findClass_of_methodNamed B.named
  have hlocks := B.notSynchronized
  subst hsz
  have hD := hD0.self (sz := s.heap.size)
  generalize hAe : va_A (mw cI cZ h0 mq mi ma) s.heap.size = A at hD ⊢
  have hA : ∀ q : Nat, s.heap.size ≤ q → A q := fun q h => by rw [← hAe]; exact Or.inr h
  have hS : va_S A s.heap s.heap [] := va_S.rf
  have hP : va_P D vwCl (mw cI cZ h0 mq mi ma) s.heap := hP
  have hl := lv_entry ([.ref h0, .int f]) (n := 3) (Nat.le_of_ble_eq_true rfl)
  rw [lg_entry_eq]
  generalize (lg_sl ([.ref h0, .int f]) ++ List.replicate (3 - (lg_sl ([.ref h0, .int f])).length) Slot.unset).toArray = ls at hl ⊢
  have hl : lv_has ls 3 [(0, .ref h0), (1, .int f)] := hl
  have kc_m1 := tk_m1
  have kc_0 := tk_0
  have kc_1 := tk_1
  have kc_2 := tk_2
  have kc_7 := tk_7
  have kc_10 := tk_10
  have kc_85 := tk_85
  have kc_100 := tk_100
  have kc_512 := tk_512
  have kc_2048 := tk_2048
  obtain ⟨mi0, hmi0⟩ : ∃ y, y = mi := ⟨_, rfl⟩
  obtain ⟨ma0, hma0⟩ : ∃ y, y = ma := ⟨_, rfl⟩
  have hFI : ∀ k, k ∉ ([] : List Nat) → mi k = mi0 k := fun k _ => by rw [hmi0]
  have hFA : ∀ k, k ∉ ([63, 48, 67] : List Nat) → ma k = ma0 k := fun k _ => by rw [hma0]
  obtain ⟨QP, hQP⟩ : ∃ y : State → Prop, y = (MQ below (va_Qv (fun (_ : Unit) => True) (fun (_ : Unit) (t : State) => ∃ (mi2 : Nat → Int32) (ma2 : Nat → Nat → Int32), ((MB mi2 ma2 ∧ (∀ k, k ∉ ([] : List Nat) → mi2 k = mi k) ∧ (∀ k, k ∉ ([63, 48, 67] : List Nat) → ma2 k = ma k)) ∧ mi2 = (x_loses f mi ma).1 ∧ ma2 = (x_loses f mi ma).2.1) ∧ pw_t D cI cJ cZ cO A (mw cI cZ h0 mq mi2 ma2) t) A) #[(.ref h0 : Value), (.int f : Value)] s 0 0 A) := ⟨_, rfl⟩
  obtain ⟨RES, hRES⟩ : ∃ y, y = (x_loses f mi ma) := ⟨_, rfl⟩
  have hfN : f.toNatClampNeg < 4 := in_lt (vpi_of (n := 4) hf0 (by omega))
  have hle := MB_le2n hI f.toNatClampNeg hfN
  have hlh := MB_le2h hI f.toNatClampNeg hfN
  -- from the entry
  have hE := hRES
  unfold x_loses at hE
  refine lv_aload_n hx hb dX11_loses_0 rfl (lv_at hl 0 rfl) ?_
  refine va_get (D := D) (ci := 11) (v := .ref (mq 42)) (C := RX11) (T := TX11) (N := 74) hx hb ha inlX11 hown hK hP 0 mw_at0 rfl 42 (by decide) (ha _ kf_X11_94) (fun _ h9 => h9) rfl dX11_loses_1 ?_
  refine lv_iload_n hx hb dX11_loses_4 rfl (lv_at hl 1 rfl) ?_
  have hin_1 : vp_in f 4 := vpi_of (by omega) (by omega)
  refine va_iald hx hb hK hP 24 0 mw_at42 rfl hin_1 dX11_loses_5 ?_
  refine lv_topi (fun x_2 ex_2 => ?_)
  have hE := bd_at ex_2 hE
  have u_x_2 := congrArg Int32.toInt ex_2
  refine lv_iconst (v := 2) hx hb dX11_loses_6 (by decide) ?_
  refine lv_icmp_eq (tgt := 49) hx hb dX11_loses_7 (by decide) (fun c_3 => ?_) (fun c_3 => ?_)
  · have t_c_3 := congrArg Int32.toInt c_3
    have hE := hE.trans (if_pos c_3)
    refine lv_aload_n hx hb dX11_loses_49 rfl (lv_at hl 0 rfl) ?_
    refine va_get (D := D) (ci := 11) (v := .ref (mq 63)) (C := RX11) (T := TX11) (N := 74) hx hb ha inlX11 hown hK hP 0 mw_at0 rfl 63 (by decide) (ha _ kf_X11_157) (fun _ h9 => h9) rfl dX11_loses_50 ?_
    refine lv_iload_n hx hb dX11_loses_53 rfl (lv_at hl 1 rfl) ?_
    refine lv_aload_n hx hb dX11_loses_54 rfl (lv_at hl 0 rfl) ?_
    refine va_get (D := D) (ci := 11) (v := .ref (mq 47)) (C := RX11) (T := TX11) (N := 74) hx hb ha inlX11 hown hK hP 0 mw_at0 rfl 47 (by decide) (ha _ kf_X11_109) (fun _ h9 => h9) rfl dX11_loses_55 ?_
    refine lv_iload_n hx hb dX11_loses_58 rfl (lv_at hl 1 rfl) ?_
    have hin_4 : vp_in f 4 := vpi_of (by omega) (by omega)
    refine va_iald hx hb hK hP 29 0 mw_at47 rfl hin_4 dX11_loses_59 ?_
    refine lv_topi (fun x_5 ex_5 => ?_)
    have hE := bd_at ex_5 hE
    have u_x_5 := congrArg Int32.toInt ex_5
    have r_x_5 := rg_ld (MB_cwnd hI) hin_4 ex_5
    refine lv_aload_n hx hb dX11_loses_60 rfl (lv_at hl 0 rfl) ?_
    refine va_get (D := D) (ci := 11) (v := .ref (mq 63)) (C := RX11) (T := TX11) (N := 74) hx hb ha inlX11 hown hK hP 0 mw_at0 rfl 63 (by decide) (ha _ kf_X11_157) (fun _ h9 => h9) rfl dX11_loses_61 ?_
    refine lv_iload_n hx hb dX11_loses_64 rfl (lv_at hl 1 rfl) ?_
    have hin_6 : vp_in f 4 := vpi_of (by omega) (by omega)
    refine va_iald hx hb hK hP 45 0 mw_at63 rfl hin_6 dX11_loses_65 ?_
    refine lv_topi (fun x_7 ex_7 => ?_)
    have hE := bd_at ex_7 hE
    have u_x_7 := congrArg Int32.toInt ex_7
    have r_x_7 := rg_ld (MB_wmax hI) hin_6 ex_7
    refine lv_icmp_ge (tgt := 84) hx hb dX11_loses_66 (by decide) (fun c_8 => ?_) (fun c_8 => ?_)
    · have t_c_8 := Int32.le_iff_toInt_le.mp c_8
      have hE := hE.trans (if_pos c_8)
      refine lv_aload_n hx hb dX11_loses_84 rfl (lv_at hl 0 rfl) ?_
      refine va_get (D := D) (ci := 11) (v := .ref (mq 47)) (C := RX11) (T := TX11) (N := 74) hx hb ha inlX11 hown hK hP 0 mw_at0 rfl 47 (by decide) (ha _ kf_X11_109) (fun _ h9 => h9) rfl dX11_loses_85 ?_
      refine lv_iload_n hx hb dX11_loses_88 rfl (lv_at hl 1 rfl) ?_
      have hin_9 : vp_in f 4 := vpi_of (by omega) (by omega)
      refine va_iald hx hb hK hP 29 0 mw_at47 rfl hin_9 dX11_loses_89 ?_
      refine lv_topi (fun x_10 ex_10 => ?_)
      have hE := bd_at ex_10 hE
      have u_x_10 := congrArg Int32.toInt ex_10
      have r_x_10 := rg_ld (MB_cwnd hI) hin_9 ex_10
      have hin_11 : vp_in f 4 := vpi_of (by omega) (by omega)
      refine va_iast hx hb hK hP hD hS 45 0 mw_at63 rfl hin_11 dX11_loses_90 (fun H locs hP hD hS => ?_)
      have hP : va_P D vwCl (mw cI cZ h0 mq mi (va_up ma 63 (upd (ma 63) f.toNatClampNeg x_10))) H := mwP_63 hP
      have hD : va_D A (mw cI cZ h0 mq mi (va_up ma 63 (upd (ma 63) f.toNatClampNeg x_10))) := mwD_63 hD
      generalize hma_12 : va_up ma 63 (upd (ma 63) f.toNatClampNeg x_10) = ma_12 at hP hD
      have hI : MB mi ma_12 := by rw [← hma_12]; exact MBa_wmax hI (by omega) (by omega)
      have hFA : ∀ k, k ∉ ([63, 48, 67] : List Nat) → ma_12 k = ma0 k := fun k hk => by rw [← hma_12]; exact (va_up_ne _ _ (fun e => hk (by rw [e]; decide))).trans (hFA k hk)
      have hE := bs_at hma_12 hE
      refine lv_aload_n hx hb dX11_loses_91 rfl (lv_at hl 0 rfl) ?_
      refine va_get (D := D) (ci := 11) (v := .ref (mq 47)) (C := RX11) (T := TX11) (N := 74) hx hb ha inlX11 hown hK hP 0 mw_at0 rfl 47 (by decide) (ha _ kf_X11_109) (fun _ h9 => h9) rfl dX11_loses_92 ?_
      refine lv_iload_n hx hb dX11_loses_95 rfl (lv_at hl 1 rfl) ?_
      have hin_13 : vp_in f 4 := vpi_of (by omega) (by omega)
      refine va_iald hx hb hK hP 29 0 mw_at47 rfl hin_13 dX11_loses_96 ?_
      refine lv_topi (fun x_14 ex_14 => ?_)
      have hE := bd_at ex_14 hE
      have u_x_14 := congrArg Int32.toInt ex_14
      have q_x_14 : x_14.toInt = x_10.toInt := congrArg Int32.toInt (ex_14.trans (((congrFun (congrFun hma_12 47) _).symm).trans (ex_10.symm)))
      have r_x_14 := rg_ld (MB_cwnd hI) hin_13 ex_14
      refine lv_bipush (v := 7) hx hb dX11_loses_97 (by decide) ?_
      refine lv_imul hx hb dX11_loses_99 ?_
      refine lv_topi (fun x_15 ex_15 => ?_)
      have hE := bd_at ex_15 hE
      try have t_x_15 := ti_mulr (k := 7) ex_15 tk_7 (by omega) (by omega)
      refine lv_bipush (v := 10) hx hb dX11_loses_100 (by decide) ?_
      refine lv_idiv hx hb dX11_loses_102 (by decide) ?_
      refine lv_topi (fun x_16 ex_16 => ?_)
      have hE := bd_at ex_16 hE
      try have t_x_16 := ti_divc (k := 10) ex_16 tk_10 (by decide) (by omega)
      refine lv_istore_n (lv' := [(2, .int x_16), (0, .ref h0), (1, .int f)]) hx hb dX11_loses_103 rfl hl (by decide) rfl (fun ls hl => ?_)
      refine lv_aload_n hx hb dX11_loses_104 rfl (lv_at hl 1 rfl) ?_
      refine va_get (D := D) (ci := 11) (v := .ref (mq 48)) (C := RX11) (T := TX11) (N := 74) hx hb ha inlX11 hown hK hP 0 mw_at0 rfl 48 (by decide) (ha _ kf_X11_112) (fun _ h9 => h9) rfl dX11_loses_105 ?_
      refine lv_iload_n hx hb dX11_loses_108 rfl (lv_at hl 2 rfl) ?_
      refine lv_iload_n hx hb dX11_loses_109 rfl (lv_at hl 0 rfl) ?_
      refine lv_sipush (v := 2048) hx hb dX11_loses_110 (by decide) ?_
      refine lv_icmp_le (tgt := 120) hx hb dX11_loses_113 (by decide) (fun c_17 => ?_) (fun c_17 => ?_)
      · have t_c_17 := Int32.le_iff_toInt_le.mp c_17
        have hE := hE.trans (if_pos c_17)
        refine lv_sipush (v := 2048) hx hb dX11_loses_120 (by decide) ?_
        have hin_18 : vp_in f 4 := vpi_of (by omega) (by omega)
        refine va_iast hx hb hK hP hD hS 30 0 mw_at48 rfl hin_18 dX11_loses_123 (fun H locs hP hD hS => ?_)
        have hP : va_P D vwCl (mw cI cZ h0 mq mi (va_up ma_12 48 (upd (ma_12 48) f.toNatClampNeg (2048 : Int32)))) H := mwP_48 hP
        have hD : va_D A (mw cI cZ h0 mq mi (va_up ma_12 48 (upd (ma_12 48) f.toNatClampNeg (2048 : Int32)))) := mwD_48 hD
        generalize hma_19 : va_up ma_12 48 (upd (ma_12 48) f.toNatClampNeg (2048 : Int32)) = ma_19 at hP hD
        have hI : MB mi ma_19 := by rw [← hma_19]; exact MBa_ssthresh hI (by omega) (by omega)
        have hFA : ∀ k, k ∉ ([63, 48, 67] : List Nat) → ma_19 k = ma0 k := fun k hk => by rw [← hma_19]; exact (va_up_ne _ _ (fun e => hk (by rw [e]; decide))).trans (hFA k hk)
        have hE := bs_at hma_19 hE
        refine lv_aload_n hx hb dX11_loses_124 rfl (lv_at hl 1 rfl) ?_
        refine va_get (D := D) (ci := 11) (v := .ref (mq 67)) (C := RX11) (T := TX11) (N := 74) hx hb ha inlX11 hown hK hP 0 mw_at0 rfl 67 (by decide) (ha _ kf_X11_169) (fun _ h9 => h9) rfl dX11_loses_125 ?_
        refine lv_iload_n hx hb dX11_loses_128 rfl (lv_at hl 2 rfl) ?_
        refine lv_iconst (v := (-1)) hx hb dX11_loses_129 (by decide) ?_
        have hin_20 : vp_in f 4 := vpi_of (by omega) (by omega)
        refine va_iast hx hb hK hP hD hS 49 0 mw_at67 rfl hin_20 dX11_loses_130 (fun H locs hP hD hS => ?_)
        have hP : va_P D vwCl (mw cI cZ h0 mq mi (va_up ma_19 67 (upd (ma_19 67) f.toNatClampNeg ((-1) : Int32)))) H := mwP_67 hP
        have hD : va_D A (mw cI cZ h0 mq mi (va_up ma_19 67 (upd (ma_19 67) f.toNatClampNeg ((-1) : Int32)))) := mwD_67 hD
        generalize hma_21 : va_up ma_19 67 (upd (ma_19 67) f.toNatClampNeg ((-1) : Int32)) = ma_21 at hP hD
        have hI : MB mi ma_21 := by rw [← hma_21]; exact MBa_epoch hI
        have hFA : ∀ k, k ∉ ([63, 48, 67] : List Nat) → ma_21 k = ma0 k := fun k hk => by rw [← hma_21]; exact (va_up_ne _ _ (fun e => hk (by rw [e]; decide))).trans (hFA k hk)
        have hE := bs_at hma_21 hE
        exact W.vret hx hb hr (fun t ht hW => ⟨⟨(), rfl, trivial, ⟨mi, ma_21, ⟨⟨hI, fun k hk => (hFI k hk).trans (by rw [hmi0]), fun k hk => (hFA k hk).trans (by rw [hma0])⟩, by rw [← hRES, hE], by rw [← hRES, hE]⟩, by rw [ht]; exact hP, va_K.moved hW.alike hK, hD⟩⟩, hS.F ht⟩) hS.2.2 dX11_loses_131
      · have t_c_17 := Int32.lt_iff_toInt_lt.mp (Int32.not_le.mp c_17)
        have hE := hE.trans (if_neg c_17)
        refine lv_iload_n hx hb dX11_loses_116 rfl (lv_at hl 0 rfl) ?_
        refine lv_goto (tgt := 123) hx hb dX11_loses_117 (by decide) ?_
        have hin_22 : vp_in f 4 := vpi_of (by omega) (by omega)
        refine va_iast hx hb hK hP hD hS 30 0 mw_at48 rfl hin_22 dX11_loses_123 (fun H locs hP hD hS => ?_)
        have hP : va_P D vwCl (mw cI cZ h0 mq mi (va_up ma_12 48 (upd (ma_12 48) f.toNatClampNeg x_16))) H := mwP_48 hP
        have hD : va_D A (mw cI cZ h0 mq mi (va_up ma_12 48 (upd (ma_12 48) f.toNatClampNeg x_16))) := mwD_48 hD
        generalize hma_23 : va_up ma_12 48 (upd (ma_12 48) f.toNatClampNeg x_16) = ma_23 at hP hD
        have hI : MB mi ma_23 := by rw [← hma_23]; exact MBa_ssthresh hI (by omega) (by omega)
        have hFA : ∀ k, k ∉ ([63, 48, 67] : List Nat) → ma_23 k = ma0 k := fun k hk => by rw [← hma_23]; exact (va_up_ne _ _ (fun e => hk (by rw [e]; decide))).trans (hFA k hk)
        have hE := bs_at hma_23 hE
        refine lv_aload_n hx hb dX11_loses_124 rfl (lv_at hl 1 rfl) ?_
        refine va_get (D := D) (ci := 11) (v := .ref (mq 67)) (C := RX11) (T := TX11) (N := 74) hx hb ha inlX11 hown hK hP 0 mw_at0 rfl 67 (by decide) (ha _ kf_X11_169) (fun _ h9 => h9) rfl dX11_loses_125 ?_
        refine lv_iload_n hx hb dX11_loses_128 rfl (lv_at hl 2 rfl) ?_
        refine lv_iconst (v := (-1)) hx hb dX11_loses_129 (by decide) ?_
        have hin_24 : vp_in f 4 := vpi_of (by omega) (by omega)
        refine va_iast hx hb hK hP hD hS 49 0 mw_at67 rfl hin_24 dX11_loses_130 (fun H locs hP hD hS => ?_)
        have hP : va_P D vwCl (mw cI cZ h0 mq mi (va_up ma_23 67 (upd (ma_23 67) f.toNatClampNeg ((-1) : Int32)))) H := mwP_67 hP
        have hD : va_D A (mw cI cZ h0 mq mi (va_up ma_23 67 (upd (ma_23 67) f.toNatClampNeg ((-1) : Int32)))) := mwD_67 hD
        generalize hma_25 : va_up ma_23 67 (upd (ma_23 67) f.toNatClampNeg ((-1) : Int32)) = ma_25 at hP hD
        have hI : MB mi ma_25 := by rw [← hma_25]; exact MBa_epoch hI
        have hFA : ∀ k, k ∉ ([63, 48, 67] : List Nat) → ma_25 k = ma0 k := fun k hk => by rw [← hma_25]; exact (va_up_ne _ _ (fun e => hk (by rw [e]; decide))).trans (hFA k hk)
        have hE := bs_at hma_25 hE
        exact W.vret hx hb hr (fun t ht hW => ⟨⟨(), rfl, trivial, ⟨mi, ma_25, ⟨⟨hI, fun k hk => (hFI k hk).trans (by rw [hmi0]), fun k hk => (hFA k hk).trans (by rw [hma0])⟩, by rw [← hRES, hE], by rw [← hRES, hE]⟩, by rw [ht]; exact hP, va_K.moved hW.alike hK, hD⟩⟩, hS.F ht⟩) hS.2.2 dX11_loses_131
    · have t_c_8 := Int32.lt_iff_toInt_lt.mp (Int32.not_le.mp c_8)
      have hE := hE.trans (if_neg c_8)
      refine lv_aload_n hx hb dX11_loses_69 rfl (lv_at hl 0 rfl) ?_
      refine va_get (D := D) (ci := 11) (v := .ref (mq 47)) (C := RX11) (T := TX11) (N := 74) hx hb ha inlX11 hown hK hP 0 mw_at0 rfl 47 (by decide) (ha _ kf_X11_109) (fun _ h9 => h9) rfl dX11_loses_70 ?_
      refine lv_iload_n hx hb dX11_loses_73 rfl (lv_at hl 1 rfl) ?_
      have hin_26 : vp_in f 4 := vpi_of (by omega) (by omega)
      refine va_iald hx hb hK hP 29 0 mw_at47 rfl hin_26 dX11_loses_74 ?_
      refine lv_topi (fun x_27 ex_27 => ?_)
      have hE := bd_at ex_27 hE
      have u_x_27 := congrArg Int32.toInt ex_27
      have r_x_27 := rg_ld (MB_cwnd hI) hin_26 ex_27
      refine lv_bipush (v := 85) hx hb dX11_loses_75 (by decide) ?_
      refine lv_imul hx hb dX11_loses_77 ?_
      refine lv_topi (fun x_28 ex_28 => ?_)
      have hE := bd_at ex_28 hE
      try have t_x_28 := ti_mulr (k := 85) ex_28 tk_85 (by omega) (by omega)
      refine lv_bipush (v := 100) hx hb dX11_loses_78 (by decide) ?_
      refine lv_idiv hx hb dX11_loses_80 (by decide) ?_
      refine lv_topi (fun x_29 ex_29 => ?_)
      have hE := bd_at ex_29 hE
      try have t_x_29 := ti_divc (k := 100) ex_29 tk_100 (by decide) (by omega)
      refine lv_goto (tgt := 90) hx hb dX11_loses_81 (by decide) ?_
      have hin_30 : vp_in f 4 := vpi_of (by omega) (by omega)
      refine va_iast hx hb hK hP hD hS 45 0 mw_at63 rfl hin_30 dX11_loses_90 (fun H locs hP hD hS => ?_)
      have hP : va_P D vwCl (mw cI cZ h0 mq mi (va_up ma 63 (upd (ma 63) f.toNatClampNeg x_29))) H := mwP_63 hP
      have hD : va_D A (mw cI cZ h0 mq mi (va_up ma 63 (upd (ma 63) f.toNatClampNeg x_29))) := mwD_63 hD
      generalize hma_31 : va_up ma 63 (upd (ma 63) f.toNatClampNeg x_29) = ma_31 at hP hD
      have hI : MB mi ma_31 := by rw [← hma_31]; exact MBa_wmax hI (by omega) (by omega)
      have hFA : ∀ k, k ∉ ([63, 48, 67] : List Nat) → ma_31 k = ma0 k := fun k hk => by rw [← hma_31]; exact (va_up_ne _ _ (fun e => hk (by rw [e]; decide))).trans (hFA k hk)
      have hE := bs_at hma_31 hE
      refine lv_aload_n hx hb dX11_loses_91 rfl (lv_at hl 0 rfl) ?_
      refine va_get (D := D) (ci := 11) (v := .ref (mq 47)) (C := RX11) (T := TX11) (N := 74) hx hb ha inlX11 hown hK hP 0 mw_at0 rfl 47 (by decide) (ha _ kf_X11_109) (fun _ h9 => h9) rfl dX11_loses_92 ?_
      refine lv_iload_n hx hb dX11_loses_95 rfl (lv_at hl 1 rfl) ?_
      have hin_32 : vp_in f 4 := vpi_of (by omega) (by omega)
      refine va_iald hx hb hK hP 29 0 mw_at47 rfl hin_32 dX11_loses_96 ?_
      refine lv_topi (fun x_33 ex_33 => ?_)
      have hE := bd_at ex_33 hE
      have u_x_33 := congrArg Int32.toInt ex_33
      have q_x_33 : x_33.toInt = x_27.toInt := congrArg Int32.toInt (ex_33.trans (((congrFun (congrFun hma_31 47) _).symm).trans (ex_27.symm)))
      have r_x_33 := rg_ld (MB_cwnd hI) hin_32 ex_33
      refine lv_bipush (v := 7) hx hb dX11_loses_97 (by decide) ?_
      refine lv_imul hx hb dX11_loses_99 ?_
      refine lv_topi (fun x_34 ex_34 => ?_)
      have hE := bd_at ex_34 hE
      try have t_x_34 := ti_mulr (k := 7) ex_34 tk_7 (by omega) (by omega)
      refine lv_bipush (v := 10) hx hb dX11_loses_100 (by decide) ?_
      refine lv_idiv hx hb dX11_loses_102 (by decide) ?_
      refine lv_topi (fun x_35 ex_35 => ?_)
      have hE := bd_at ex_35 hE
      try have t_x_35 := ti_divc (k := 10) ex_35 tk_10 (by decide) (by omega)
      refine lv_istore_n (lv' := [(2, .int x_35), (0, .ref h0), (1, .int f)]) hx hb dX11_loses_103 rfl hl (by decide) rfl (fun ls hl => ?_)
      refine lv_aload_n hx hb dX11_loses_104 rfl (lv_at hl 1 rfl) ?_
      refine va_get (D := D) (ci := 11) (v := .ref (mq 48)) (C := RX11) (T := TX11) (N := 74) hx hb ha inlX11 hown hK hP 0 mw_at0 rfl 48 (by decide) (ha _ kf_X11_112) (fun _ h9 => h9) rfl dX11_loses_105 ?_
      refine lv_iload_n hx hb dX11_loses_108 rfl (lv_at hl 2 rfl) ?_
      refine lv_iload_n hx hb dX11_loses_109 rfl (lv_at hl 0 rfl) ?_
      refine lv_sipush (v := 2048) hx hb dX11_loses_110 (by decide) ?_
      refine lv_icmp_le (tgt := 120) hx hb dX11_loses_113 (by decide) (fun c_36 => ?_) (fun c_36 => ?_)
      · have t_c_36 := Int32.le_iff_toInt_le.mp c_36
        have hE := hE.trans (if_pos c_36)
        refine lv_sipush (v := 2048) hx hb dX11_loses_120 (by decide) ?_
        have hin_37 : vp_in f 4 := vpi_of (by omega) (by omega)
        refine va_iast hx hb hK hP hD hS 30 0 mw_at48 rfl hin_37 dX11_loses_123 (fun H locs hP hD hS => ?_)
        have hP : va_P D vwCl (mw cI cZ h0 mq mi (va_up ma_31 48 (upd (ma_31 48) f.toNatClampNeg (2048 : Int32)))) H := mwP_48 hP
        have hD : va_D A (mw cI cZ h0 mq mi (va_up ma_31 48 (upd (ma_31 48) f.toNatClampNeg (2048 : Int32)))) := mwD_48 hD
        generalize hma_38 : va_up ma_31 48 (upd (ma_31 48) f.toNatClampNeg (2048 : Int32)) = ma_38 at hP hD
        have hI : MB mi ma_38 := by rw [← hma_38]; exact MBa_ssthresh hI (by omega) (by omega)
        have hFA : ∀ k, k ∉ ([63, 48, 67] : List Nat) → ma_38 k = ma0 k := fun k hk => by rw [← hma_38]; exact (va_up_ne _ _ (fun e => hk (by rw [e]; decide))).trans (hFA k hk)
        have hE := bs_at hma_38 hE
        refine lv_aload_n hx hb dX11_loses_124 rfl (lv_at hl 1 rfl) ?_
        refine va_get (D := D) (ci := 11) (v := .ref (mq 67)) (C := RX11) (T := TX11) (N := 74) hx hb ha inlX11 hown hK hP 0 mw_at0 rfl 67 (by decide) (ha _ kf_X11_169) (fun _ h9 => h9) rfl dX11_loses_125 ?_
        refine lv_iload_n hx hb dX11_loses_128 rfl (lv_at hl 2 rfl) ?_
        refine lv_iconst (v := (-1)) hx hb dX11_loses_129 (by decide) ?_
        have hin_39 : vp_in f 4 := vpi_of (by omega) (by omega)
        refine va_iast hx hb hK hP hD hS 49 0 mw_at67 rfl hin_39 dX11_loses_130 (fun H locs hP hD hS => ?_)
        have hP : va_P D vwCl (mw cI cZ h0 mq mi (va_up ma_38 67 (upd (ma_38 67) f.toNatClampNeg ((-1) : Int32)))) H := mwP_67 hP
        have hD : va_D A (mw cI cZ h0 mq mi (va_up ma_38 67 (upd (ma_38 67) f.toNatClampNeg ((-1) : Int32)))) := mwD_67 hD
        generalize hma_40 : va_up ma_38 67 (upd (ma_38 67) f.toNatClampNeg ((-1) : Int32)) = ma_40 at hP hD
        have hI : MB mi ma_40 := by rw [← hma_40]; exact MBa_epoch hI
        have hFA : ∀ k, k ∉ ([63, 48, 67] : List Nat) → ma_40 k = ma0 k := fun k hk => by rw [← hma_40]; exact (va_up_ne _ _ (fun e => hk (by rw [e]; decide))).trans (hFA k hk)
        have hE := bs_at hma_40 hE
        exact W.vret hx hb hr (fun t ht hW => ⟨⟨(), rfl, trivial, ⟨mi, ma_40, ⟨⟨hI, fun k hk => (hFI k hk).trans (by rw [hmi0]), fun k hk => (hFA k hk).trans (by rw [hma0])⟩, by rw [← hRES, hE], by rw [← hRES, hE]⟩, by rw [ht]; exact hP, va_K.moved hW.alike hK, hD⟩⟩, hS.F ht⟩) hS.2.2 dX11_loses_131
      · have t_c_36 := Int32.lt_iff_toInt_lt.mp (Int32.not_le.mp c_36)
        have hE := hE.trans (if_neg c_36)
        refine lv_iload_n hx hb dX11_loses_116 rfl (lv_at hl 0 rfl) ?_
        refine lv_goto (tgt := 123) hx hb dX11_loses_117 (by decide) ?_
        have hin_41 : vp_in f 4 := vpi_of (by omega) (by omega)
        refine va_iast hx hb hK hP hD hS 30 0 mw_at48 rfl hin_41 dX11_loses_123 (fun H locs hP hD hS => ?_)
        have hP : va_P D vwCl (mw cI cZ h0 mq mi (va_up ma_31 48 (upd (ma_31 48) f.toNatClampNeg x_35))) H := mwP_48 hP
        have hD : va_D A (mw cI cZ h0 mq mi (va_up ma_31 48 (upd (ma_31 48) f.toNatClampNeg x_35))) := mwD_48 hD
        generalize hma_42 : va_up ma_31 48 (upd (ma_31 48) f.toNatClampNeg x_35) = ma_42 at hP hD
        have hI : MB mi ma_42 := by rw [← hma_42]; exact MBa_ssthresh hI (by omega) (by omega)
        have hFA : ∀ k, k ∉ ([63, 48, 67] : List Nat) → ma_42 k = ma0 k := fun k hk => by rw [← hma_42]; exact (va_up_ne _ _ (fun e => hk (by rw [e]; decide))).trans (hFA k hk)
        have hE := bs_at hma_42 hE
        refine lv_aload_n hx hb dX11_loses_124 rfl (lv_at hl 1 rfl) ?_
        refine va_get (D := D) (ci := 11) (v := .ref (mq 67)) (C := RX11) (T := TX11) (N := 74) hx hb ha inlX11 hown hK hP 0 mw_at0 rfl 67 (by decide) (ha _ kf_X11_169) (fun _ h9 => h9) rfl dX11_loses_125 ?_
        refine lv_iload_n hx hb dX11_loses_128 rfl (lv_at hl 2 rfl) ?_
        refine lv_iconst (v := (-1)) hx hb dX11_loses_129 (by decide) ?_
        have hin_43 : vp_in f 4 := vpi_of (by omega) (by omega)
        refine va_iast hx hb hK hP hD hS 49 0 mw_at67 rfl hin_43 dX11_loses_130 (fun H locs hP hD hS => ?_)
        have hP : va_P D vwCl (mw cI cZ h0 mq mi (va_up ma_42 67 (upd (ma_42 67) f.toNatClampNeg ((-1) : Int32)))) H := mwP_67 hP
        have hD : va_D A (mw cI cZ h0 mq mi (va_up ma_42 67 (upd (ma_42 67) f.toNatClampNeg ((-1) : Int32)))) := mwD_67 hD
        generalize hma_44 : va_up ma_42 67 (upd (ma_42 67) f.toNatClampNeg ((-1) : Int32)) = ma_44 at hP hD
        have hI : MB mi ma_44 := by rw [← hma_44]; exact MBa_epoch hI
        have hFA : ∀ k, k ∉ ([63, 48, 67] : List Nat) → ma_44 k = ma0 k := fun k hk => by rw [← hma_44]; exact (va_up_ne _ _ (fun e => hk (by rw [e]; decide))).trans (hFA k hk)
        have hE := bs_at hma_44 hE
        exact W.vret hx hb hr (fun t ht hW => ⟨⟨(), rfl, trivial, ⟨mi, ma_44, ⟨⟨hI, fun k hk => (hFI k hk).trans (by rw [hmi0]), fun k hk => (hFA k hk).trans (by rw [hma0])⟩, by rw [← hRES, hE], by rw [← hRES, hE]⟩, by rw [ht]; exact hP, va_K.moved hW.alike hK, hD⟩⟩, hS.F ht⟩) hS.2.2 dX11_loses_131
  · have t_c_3 := mt Int32.toInt_inj.mp c_3
    have hE := hE.trans (if_neg c_3)
    refine lv_aload_n hx hb dX11_loses_10 rfl (lv_at hl 0 rfl) ?_
    refine va_get (D := D) (ci := 11) (v := .ref (mq 45)) (C := RX11) (T := TX11) (N := 74) hx hb ha inlX11 hown hK hP 0 mw_at0 rfl 45 (by decide) (ha _ kf_X11_103) (fun _ h9 => h9) rfl dX11_loses_11 ?_
    refine lv_iload_n hx hb dX11_loses_14 rfl (lv_at hl 1 rfl) ?_
    have hin_45 : vp_in f 4 := vpi_of (by omega) (by omega)
    refine va_iald hx hb hK hP 27 0 mw_at45 rfl hin_45 dX11_loses_15 ?_
    refine lv_topi (fun x_46 ex_46 => ?_)
    have hE := bd_at ex_46 hE
    have u_x_46 := congrArg Int32.toInt ex_46
    have r_x_46 := rg_ld (MB_nxt hI) hin_45 ex_46
    refine lv_aload_n hx hb dX11_loses_16 rfl (lv_at hl 0 rfl) ?_
    refine va_get (D := D) (ci := 11) (v := .ref (mq 44)) (C := RX11) (T := TX11) (N := 74) hx hb ha inlX11 hown hK hP 0 mw_at0 rfl 44 (by decide) (ha _ kf_X11_100) (fun _ h9 => h9) rfl dX11_loses_17 ?_
    refine lv_iload_n hx hb dX11_loses_20 rfl (lv_at hl 1 rfl) ?_
    have hin_47 : vp_in f 4 := vpi_of (by omega) (by omega)
    refine va_iald hx hb hK hP 26 0 mw_at44 rfl hin_47 dX11_loses_21 ?_
    refine lv_topi (fun x_48 ex_48 => ?_)
    have hE := bd_at ex_48 hE
    have u_x_48 := congrArg Int32.toInt ex_48
    have r_x_48 := rg_ld (MB_una hI) hin_47 ex_48
    refine lv_isub hx hb dX11_loses_22 ?_
    refine lv_topi (fun x_49 ex_49 => ?_)
    have hE := bd_at ex_49 hE
    try have t_x_49 := ti_sub ex_49 (by omega) (by omega)
    refine lv_sipush (v := 512) hx hb dX11_loses_23 (by decide) ?_
    refine lv_imul hx hb dX11_loses_26 ?_
    refine lv_topi (fun x_50 ex_50 => ?_)
    have hE := bd_at ex_50 hE
    try have t_x_50 := ti_mulr (k := 512) ex_50 tk_512 (by omega) (by omega)
    refine lv_istore_n (lv' := [(2, .int x_50), (0, .ref h0), (1, .int f)]) hx hb dX11_loses_27 rfl hl (by decide) rfl (fun ls hl => ?_)
    refine lv_aload_n hx hb dX11_loses_28 rfl (lv_at hl 1 rfl) ?_
    refine va_get (D := D) (ci := 11) (v := .ref (mq 48)) (C := RX11) (T := TX11) (N := 74) hx hb ha inlX11 hown hK hP 0 mw_at0 rfl 48 (by decide) (ha _ kf_X11_112) (fun _ h9 => h9) rfl dX11_loses_29 ?_
    refine lv_iload_n hx hb dX11_loses_32 rfl (lv_at hl 2 rfl) ?_
    refine lv_iload_n hx hb dX11_loses_33 rfl (lv_at hl 0 rfl) ?_
    refine lv_sipush (v := 2048) hx hb dX11_loses_34 (by decide) ?_
    refine lv_icmp_le (tgt := 44) hx hb dX11_loses_37 (by decide) (fun c_51 => ?_) (fun c_51 => ?_)
    · have t_c_51 := Int32.le_iff_toInt_le.mp c_51
      have hE := hE.trans (if_pos c_51)
      refine lv_sipush (v := 2048) hx hb dX11_loses_44 (by decide) ?_
      have hin_52 : vp_in f 4 := vpi_of (by omega) (by omega)
      refine va_iast hx hb hK hP hD hS 30 0 mw_at48 rfl hin_52 dX11_loses_47 (fun H locs hP hD hS => ?_)
      have hP : va_P D vwCl (mw cI cZ h0 mq mi (va_up ma 48 (upd (ma 48) f.toNatClampNeg (2048 : Int32)))) H := mwP_48 hP
      have hD : va_D A (mw cI cZ h0 mq mi (va_up ma 48 (upd (ma 48) f.toNatClampNeg (2048 : Int32)))) := mwD_48 hD
      generalize hma_53 : va_up ma 48 (upd (ma 48) f.toNatClampNeg (2048 : Int32)) = ma_53 at hP hD
      have hI : MB mi ma_53 := by rw [← hma_53]; exact MBa_ssthresh hI (by omega) (by omega)
      have hFA : ∀ k, k ∉ ([63, 48, 67] : List Nat) → ma_53 k = ma0 k := fun k hk => by rw [← hma_53]; exact (va_up_ne _ _ (fun e => hk (by rw [e]; decide))).trans (hFA k hk)
      have hE := bs_at hma_53 hE
      exact W.vret hx hb hr (fun t ht hW => ⟨⟨(), rfl, trivial, ⟨mi, ma_53, ⟨⟨hI, fun k hk => (hFI k hk).trans (by rw [hmi0]), fun k hk => (hFA k hk).trans (by rw [hma0])⟩, by rw [← hRES, hE], by rw [← hRES, hE]⟩, by rw [ht]; exact hP, va_K.moved hW.alike hK, hD⟩⟩, hS.F ht⟩) hS.2.2 dX11_loses_48
    · have t_c_51 := Int32.lt_iff_toInt_lt.mp (Int32.not_le.mp c_51)
      have hE := hE.trans (if_neg c_51)
      refine lv_iload_n hx hb dX11_loses_40 rfl (lv_at hl 0 rfl) ?_
      refine lv_goto (tgt := 47) hx hb dX11_loses_41 (by decide) ?_
      have hin_54 : vp_in f 4 := vpi_of (by omega) (by omega)
      refine va_iast hx hb hK hP hD hS 30 0 mw_at48 rfl hin_54 dX11_loses_47 (fun H locs hP hD hS => ?_)
      have hP : va_P D vwCl (mw cI cZ h0 mq mi (va_up ma 48 (upd (ma 48) f.toNatClampNeg x_50))) H := mwP_48 hP
      have hD : va_D A (mw cI cZ h0 mq mi (va_up ma 48 (upd (ma 48) f.toNatClampNeg x_50))) := mwD_48 hD
      generalize hma_55 : va_up ma 48 (upd (ma 48) f.toNatClampNeg x_50) = ma_55 at hP hD
      have hI : MB mi ma_55 := by rw [← hma_55]; exact MBa_ssthresh hI (by omega) (by omega)
      have hFA : ∀ k, k ∉ ([63, 48, 67] : List Nat) → ma_55 k = ma0 k := fun k hk => by rw [← hma_55]; exact (va_up_ne _ _ (fun e => hk (by rw [e]; decide))).trans (hFA k hk)
      have hE := bs_at hma_55 hE
      exact W.vret hx hb hr (fun t ht hW => ⟨⟨(), rfl, trivial, ⟨mi, ma_55, ⟨⟨hI, fun k hk => (hFI k hk).trans (by rw [hmi0]), fun k hk => (hFA k hk).trans (by rw [hma0])⟩, by rw [← hRES, hE], by rw [← hRES, hE]⟩, by rw [ht]; exact hP, va_K.moved hW.alike hK, hD⟩⟩, hS.F ht⟩) hS.2.2 dX11_loses_48

set_option maxRecDepth 100000 in
def x_measures (f : Int32) (a : Int32) (mi : Nat → Int32) (ma : Nat → Nat → Int32) : XT := bd (ma 69 f.toNatClampNeg) (fun v1 => (if v1 = ((-1) : Int32) then (mi, ma, 0) else bd (ma 69 f.toNatClampNeg) (fun v2 => (if v2 < a then bd (mi 4) (fun v3 => bd (ma 70 f.toNatClampNeg) (fun v4 => bd (v3 - v4) (fun v5 => bd (va_up ma 69 (upd (ma 69) f.toNatClampNeg ((-1) : Int32))) (fun a6 => bd (a6 52 f.toNatClampNeg) (fun v7 => (if v7 = (0 : Int32) then bd (va_up a6 52 (upd (a6 52) f.toNatClampNeg (vp_nar .boolean (1 : Int32)))) (fun a8 => bd ((8 : Int32) * v5) (fun v9 => bd (va_up a8 50 (upd (a8 50) f.toNatClampNeg v9)) (fun a10 => bd ((2 : Int32) * v5) (fun v11 => bd (va_up a10 51 (upd (a10 51) f.toNatClampNeg v11)) (fun a12 => bd (a12 50 f.toNatClampNeg) (fun v13 => bd (v13 / (8 : Int32)) (fun v14 => bd (a12 51 f.toNatClampNeg) (fun v15 => (if v15 ≤ (1 : Int32) then bd (v14 + (1 : Int32)) (fun v16 => (if (200 : Int32) ≤ v16 then (if v16 ≤ (60000 : Int32) then bd (va_up a12 49 (upd (a12 49) f.toNatClampNeg v16)) (fun a17 => (mi, a17, 0)) else bd (va_up a12 49 (upd (a12 49) f.toNatClampNeg (60000 : Int32))) (fun a18 => (mi, a18, 0))) else bd (va_up a12 49 (upd (a12 49) f.toNatClampNeg (200 : Int32))) (fun a19 => (mi, a19, 0)))) else bd (a12 51 f.toNatClampNeg) (fun v20 => bd (v14 + v20) (fun v21 => (if (200 : Int32) ≤ v21 then (if v21 ≤ (60000 : Int32) then bd (va_up a12 49 (upd (a12 49) f.toNatClampNeg v21)) (fun a22 => (mi, a22, 0)) else bd (va_up a12 49 (upd (a12 49) f.toNatClampNeg (60000 : Int32))) (fun a23 => (mi, a23, 0))) else bd (va_up a12 49 (upd (a12 49) f.toNatClampNeg (200 : Int32))) (fun a24 => (mi, a24, 0)))))))))))))) else bd (a6 50 f.toNatClampNeg) (fun v25 => bd (v25 / (8 : Int32)) (fun v26 => bd (v26 - v5) (fun v27 => bd (a6 51 f.toNatClampNeg) (fun v28 => bd (a6 51 f.toNatClampNeg) (fun v29 => bd (v29 / (4 : Int32)) (fun v30 => bd (v28 - v30) (fun v31 => (if (0 : Int32) ≤ v27 then bd (v31 + v27) (fun v32 => bd (va_up a6 51 (upd (a6 51) f.toNatClampNeg v32)) (fun a33 => bd (a33 50 f.toNatClampNeg) (fun v34 => bd (a33 50 f.toNatClampNeg) (fun v35 => bd (v35 / (8 : Int32)) (fun v36 => bd (v34 - v36) (fun v37 => bd (v37 + v5) (fun v38 => bd (va_up a33 50 (upd (a33 50) f.toNatClampNeg v38)) (fun a39 => bd (a39 50 f.toNatClampNeg) (fun v40 => bd (v40 / (8 : Int32)) (fun v41 => bd (a39 51 f.toNatClampNeg) (fun v42 => (if v42 ≤ (1 : Int32) then bd (v41 + (1 : Int32)) (fun v43 => (if (200 : Int32) ≤ v43 then (if v43 ≤ (60000 : Int32) then bd (va_up a39 49 (upd (a39 49) f.toNatClampNeg v43)) (fun a44 => (mi, a44, 0)) else bd (va_up a39 49 (upd (a39 49) f.toNatClampNeg (60000 : Int32))) (fun a45 => (mi, a45, 0))) else bd (va_up a39 49 (upd (a39 49) f.toNatClampNeg (200 : Int32))) (fun a46 => (mi, a46, 0)))) else bd (a39 51 f.toNatClampNeg) (fun v47 => bd (v41 + v47) (fun v48 => (if (200 : Int32) ≤ v48 then (if v48 ≤ (60000 : Int32) then bd (va_up a39 49 (upd (a39 49) f.toNatClampNeg v48)) (fun a49 => (mi, a49, 0)) else bd (va_up a39 49 (upd (a39 49) f.toNatClampNeg (60000 : Int32))) (fun a50 => (mi, a50, 0))) else bd (va_up a39 49 (upd (a39 49) f.toNatClampNeg (200 : Int32))) (fun a51 => (mi, a51, 0))))))))))))))))) else bd (-v27) (fun v52 => bd (v31 + v52) (fun v53 => bd (va_up a6 51 (upd (a6 51) f.toNatClampNeg v53)) (fun a54 => bd (a54 50 f.toNatClampNeg) (fun v55 => bd (a54 50 f.toNatClampNeg) (fun v56 => bd (v56 / (8 : Int32)) (fun v57 => bd (v55 - v57) (fun v58 => bd (v58 + v5) (fun v59 => bd (va_up a54 50 (upd (a54 50) f.toNatClampNeg v59)) (fun a60 => bd (a60 50 f.toNatClampNeg) (fun v61 => bd (v61 / (8 : Int32)) (fun v62 => bd (a60 51 f.toNatClampNeg) (fun v63 => (if v63 ≤ (1 : Int32) then bd (v62 + (1 : Int32)) (fun v64 => (if (200 : Int32) ≤ v64 then (if v64 ≤ (60000 : Int32) then bd (va_up a60 49 (upd (a60 49) f.toNatClampNeg v64)) (fun a65 => (mi, a65, 0)) else bd (va_up a60 49 (upd (a60 49) f.toNatClampNeg (60000 : Int32))) (fun a66 => (mi, a66, 0))) else bd (va_up a60 49 (upd (a60 49) f.toNatClampNeg (200 : Int32))) (fun a67 => (mi, a67, 0)))) else bd (a60 51 f.toNatClampNeg) (fun v68 => bd (v62 + v68) (fun v69 => (if (200 : Int32) ≤ v69 then (if v69 ≤ (60000 : Int32) then bd (va_up a60 49 (upd (a60 49) f.toNatClampNeg v69)) (fun a70 => (mi, a70, 0)) else bd (va_up a60 49 (upd (a60 49) f.toNatClampNeg (60000 : Int32))) (fun a71 => (mi, a71, 0))) else bd (va_up a60 49 (upd (a60 49) f.toNatClampNeg (200 : Int32))) (fun a72 => (mi, a72, 0)))))))))))))))))))))))))))))))) else (mi, ma, 0)))))
set_option maxHeartbeats 4000000 in
set_option maxRecDepth 100000 in
theorem m_measures (l : Launch) (D : va_G) (cI cJ cZ cO : ClassId) (sz : Nat) (h0 : Nat) (mq : Nat → Nat) (mi : Nat → Int32) (ma : Nat → Nat → Int32) (ph : Nat) (cl : Int) (f a : Int32) (hI : MB mi ma) (hf0 : 0 ≤ f.toInt) (hf4 : f.toInt < 4) : Met l yX11_measures (wa yX11_measures cX11_measures 5 none) ({ frames := 0, cells := 0, slots := 0, locals := 0 }) (va_Pc [.ref h0, .int f, .int a] (pw_s D cI cJ cZ cO sz (mw cI cZ h0 mq mi ma))) (va_Qv (fun (_ : Unit) => True) (fun (_ : Unit) (t : State) => ∃ (mi2 : Nat → Int32) (ma2 : Nat → Nat → Int32), ((MB mi2 ma2 ∧ (∀ k, k ∉ ([] : List Nat) → mi2 k = mi k) ∧ (∀ k, k ∉ ([69, 51, 50, 52, 49] : List Nat) → ma2 k = ma k)) ∧ mi2 = (x_measures f a mi ma).1 ∧ ma2 = (x_measures f a mi ma).2.1) ∧ pw_t D cI cJ cZ cO (va_A (mw cI cZ h0 mq mi ma) sz) (mw cI cZ h0 mq mi2 ma2) t) (va_A (mw cI cZ h0 mq mi ma) sz)) 0 0 (va_A (mw cI cZ h0 mq mi ma) sz) := by
  refine Met.ofW (cc := cX11_measures) (maxL := 5) (ret := none) (by decide) rfl ?_
  intro p e s m args below meth c s₁ B hml hv
  obtain ⟨rfl, hsz, hP, hK, hD0, hN⟩ := hv
  have hx := B.exec
  have hb := B.bytes
  have hr := B.returns
  have hts := atoms_spec (ws := (wa yX11_measures cX11_measures 5 none)) B.pre
  have ha : ∀ w ∈ wsL_law, w.before _ s = true := fun w h => hts w (List.mem_cons_of_mem _ h)
  have hown : s.vm.findClass RX11 = some m.cls := findClass_of_methodNamed B.named
  have hlocks := B.notSynchronized
  subst hsz
  have hD := hD0.self (sz := s.heap.size)
  generalize hAe : va_A (mw cI cZ h0 mq mi ma) s.heap.size = A at hD ⊢
  have hA : ∀ q : Nat, s.heap.size ≤ q → A q := fun q h => by rw [← hAe]; exact Or.inr h
  have hS : va_S A s.heap s.heap [] := va_S.rf
  have hP : va_P D vwCl (mw cI cZ h0 mq mi ma) s.heap := hP
  have hl := lv_entry ([.ref h0, .int f, .int a]) (n := 5) (Nat.le_of_ble_eq_true rfl)
  rw [lg_entry_eq]
  generalize (lg_sl ([.ref h0, .int f, .int a]) ++ List.replicate (5 - (lg_sl ([.ref h0, .int f, .int a])).length) Slot.unset).toArray = ls at hl ⊢
  have hl : lv_has ls 5 [(0, .ref h0), (1, .int f), (2, .int a)] := hl
  have kc_m1 := tk_m1
  have kc_0 := tk_0
  have kc_1 := tk_1
  have kc_2 := tk_2
  have kc_4 := tk_4
  have kc_8 := tk_8
  have kc_200 := tk_200
  have kc_60000 := tk_60000
  obtain ⟨mi0, hmi0⟩ : ∃ y, y = mi := ⟨_, rfl⟩
  obtain ⟨ma0, hma0⟩ : ∃ y, y = ma := ⟨_, rfl⟩
  have hFI : ∀ k, k ∉ ([] : List Nat) → mi k = mi0 k := fun k _ => by rw [hmi0]
  have hFA : ∀ k, k ∉ ([69, 51, 50, 52, 49] : List Nat) → ma k = ma0 k := fun k _ => by rw [hma0]
  obtain ⟨QP, hQP⟩ : ∃ y : State → Prop, y = (MQ below (va_Qv (fun (_ : Unit) => True) (fun (_ : Unit) (t : State) => ∃ (mi2 : Nat → Int32) (ma2 : Nat → Nat → Int32), ((MB mi2 ma2 ∧ (∀ k, k ∉ ([] : List Nat) → mi2 k = mi k) ∧ (∀ k, k ∉ ([69, 51, 50, 52, 49] : List Nat) → ma2 k = ma k)) ∧ mi2 = (x_measures f a mi ma).1 ∧ ma2 = (x_measures f a mi ma).2.1) ∧ pw_t D cI cJ cZ cO A (mw cI cZ h0 mq mi2 ma2) t) A) #[(.ref h0 : Value), (.int f : Value), (.int a : Value)] s 0 0 A) := ⟨_, rfl⟩
  obtain ⟨RES, hRES⟩ : ∃ y, y = (x_measures f a mi ma) := ⟨_, rfl⟩
  have hfN : f.toNatClampNeg < 4 := in_lt (vpi_of (n := 4) hf0 (by omega))
  have hle := MB_le2n hI f.toNatClampNeg hfN
  have hlh := MB_le2h hI f.toNatClampNeg hfN
  -- from the entry
  have hE := hRES
  unfold x_measures at hE
  refine lv_aload_n hx hb dX11_measures_0 rfl (lv_at hl 0 rfl) ?_
  refine va_get (D := D) (ci := 11) (v := .ref (mq 69)) (C := RX11) (T := TX11) (N := 74) hx hb ha inlX11 hown hK hP 0 mw_at0 rfl 69 (by decide) (ha _ kf_X11_175) (fun _ h9 => h9) rfl dX11_measures_1 ?_
  refine lv_iload_n hx hb dX11_measures_4 rfl (lv_at hl 1 rfl) ?_
  have hin_1 : vp_in f 4 := vpi_of (by omega) (by omega)
  refine va_iald hx hb hK hP 51 0 mw_at69 rfl hin_1 dX11_measures_5 ?_
  refine lv_topi (fun x_2 ex_2 => ?_)
  have hE := bd_at ex_2 hE
  have u_x_2 := congrArg Int32.toInt ex_2
  refine lv_iconst (v := (-1)) hx hb dX11_measures_6 (by decide) ?_
  refine lv_icmp_eq (tgt := 20) hx hb dX11_measures_7 (by decide) (fun c_3 => ?_) (fun c_3 => ?_)
  · have t_c_3 := congrArg Int32.toInt c_3
    have hE := hE.trans (if_pos c_3)
    exact W.vret hx hb hr (fun t ht hW => ⟨⟨(), rfl, trivial, ⟨mi, ma, ⟨⟨hI, fun k hk => (hFI k hk).trans (by rw [hmi0]), fun k hk => (hFA k hk).trans (by rw [hma0])⟩, by rw [← hRES, hE], by rw [← hRES, hE]⟩, by rw [ht]; exact hP, va_K.moved hW.alike hK, hD⟩⟩, hS.F ht⟩) hS.2.2 dX11_measures_20
  · have t_c_3 := mt Int32.toInt_inj.mp c_3
    have hE := hE.trans (if_neg c_3)
    refine lv_iload_n hx hb dX11_measures_10 rfl (lv_at hl 2 rfl) ?_
    refine lv_aload_n hx hb dX11_measures_11 rfl (lv_at hl 0 rfl) ?_
    refine va_get (D := D) (ci := 11) (v := .ref (mq 69)) (C := RX11) (T := TX11) (N := 74) hx hb ha inlX11 hown hK hP 0 mw_at0 rfl 69 (by decide) (ha _ kf_X11_175) (fun _ h9 => h9) rfl dX11_measures_12 ?_
    refine lv_iload_n hx hb dX11_measures_15 rfl (lv_at hl 1 rfl) ?_
    have hin_4 : vp_in f 4 := vpi_of (by omega) (by omega)
    refine va_iald hx hb hK hP 51 0 mw_at69 rfl hin_4 dX11_measures_16 ?_
    refine lv_topi (fun x_5 ex_5 => ?_)
    have hE := bd_at ex_5 hE
    have u_x_5 := congrArg Int32.toInt ex_5
    refine lv_icmp_gt (tgt := 21) hx hb dX11_measures_17 (by decide) (fun c_6 => ?_) (fun c_6 => ?_)
    · have t_c_6 := Int32.lt_iff_toInt_lt.mp c_6
      have hE := hE.trans (if_pos c_6)
      refine lv_aload_n hx hb dX11_measures_21 rfl (lv_at hl 0 rfl) ?_
      refine va_get (D := D) (ci := 11) (v := .int (mi 4)) (C := RX11) (T := TX11) (N := 74) hx hb ha inlX11 hown hK hP 0 mw_at0 rfl 4 (by decide) (ha _ kf_X11_207) (fun _ h9 => h9) rfl dX11_measures_22 ?_
      refine lv_topi (fun x_7 ex_7 => ?_)
      have hE := bd_at ex_7 hE
      have u_x_7 := congrArg Int32.toInt ex_7
      have r_x_7 := MB_tick hI
      rw [← ex_7] at r_x_7
      refine lv_aload_n hx hb dX11_measures_25 rfl (lv_at hl 0 rfl) ?_
      refine va_get (D := D) (ci := 11) (v := .ref (mq 70)) (C := RX11) (T := TX11) (N := 74) hx hb ha inlX11 hown hK hP 0 mw_at0 rfl 70 (by decide) (ha _ kf_X11_178) (fun _ h9 => h9) rfl dX11_measures_26 ?_
      refine lv_iload_n hx hb dX11_measures_29 rfl (lv_at hl 1 rfl) ?_
      have hin_8 : vp_in f 4 := vpi_of (by omega) (by omega)
      refine va_iald hx hb hK hP 52 0 mw_at70 rfl hin_8 dX11_measures_30 ?_
      refine lv_topi (fun x_9 ex_9 => ?_)
      have hE := bd_at ex_9 hE
      have u_x_9 := congrArg Int32.toInt ex_9
      refine lv_isub hx hb dX11_measures_31 ?_
      refine lv_topi (fun x_10 ex_10 => ?_)
      have hE := bd_at ex_10 hE
      refine lv_istore_n (lv' := [(3, .int x_10), (0, .ref h0), (1, .int f), (2, .int a)]) hx hb dX11_measures_32 rfl hl (by decide) rfl (fun ls hl => ?_)
      refine lv_aload_n hx hb dX11_measures_33 rfl (lv_at hl 1 rfl) ?_
      refine va_get (D := D) (ci := 11) (v := .ref (mq 69)) (C := RX11) (T := TX11) (N := 74) hx hb ha inlX11 hown hK hP 0 mw_at0 rfl 69 (by decide) (ha _ kf_X11_175) (fun _ h9 => h9) rfl dX11_measures_34 ?_
      refine lv_iload_n hx hb dX11_measures_37 rfl (lv_at hl 2 rfl) ?_
      refine lv_iconst (v := (-1)) hx hb dX11_measures_38 (by decide) ?_
      have hin_11 : vp_in f 4 := vpi_of (by omega) (by omega)
      refine va_iast hx hb hK hP hD hS 51 0 mw_at69 rfl hin_11 dX11_measures_39 (fun H locs hP hD hS => ?_)
      have hP : va_P D vwCl (mw cI cZ h0 mq mi (va_up ma 69 (upd (ma 69) f.toNatClampNeg ((-1) : Int32)))) H := mwP_69 hP
      have hD : va_D A (mw cI cZ h0 mq mi (va_up ma 69 (upd (ma 69) f.toNatClampNeg ((-1) : Int32)))) := mwD_69 hD
      generalize hma_12 : va_up ma 69 (upd (ma 69) f.toNatClampNeg ((-1) : Int32)) = ma_12 at hP hD
      have hI : MB mi ma_12 := by rw [← hma_12]; exact MBa_measured hI
      have hFA : ∀ k, k ∉ ([69, 51, 50, 52, 49] : List Nat) → ma_12 k = ma0 k := fun k hk => by rw [← hma_12]; exact (va_up_ne _ _ (fun e => hk (by rw [e]; decide))).trans (hFA k hk)
      have hE := bs_at hma_12 hE
      refine lv_aload_n hx hb dX11_measures_40 rfl (lv_at hl 1 rfl) ?_
      refine va_get (D := D) (ci := 11) (v := .ref (mq 52)) (C := RX11) (T := TX11) (N := 74) hx hb ha inlX11 hown hK hP 0 mw_at0 rfl 52 (by decide) (ha _ kf_X11_124) (fun _ h9 => h9) rfl dX11_measures_41 ?_
      refine lv_iload_n hx hb dX11_measures_44 rfl (lv_at hl 2 rfl) ?_
      have hin_13 : vp_in f 4 := vpi_of (by omega) (by omega)
      refine va_zald hx hb hK hP 34 2 mw_at52 rfl hin_13 dX11_measures_45 ?_
      refine lv_topi (fun x_14 ex_14 => ?_)
      have hE := bd_at ex_14 hE
      have u_x_14 := congrArg Int32.toInt ex_14
      refine lv_if_eq (tgt := 124) hx hb dX11_measures_46 (by decide) (fun c_15 => ?_) (fun c_15 => ?_)
      · have t_c_15 := congrArg Int32.toInt c_15
        have hE := hE.trans (if_pos c_15)
        refine lv_aload_n hx hb dX11_measures_124 rfl (lv_at hl 1 rfl) ?_
        refine va_get (D := D) (ci := 11) (v := .ref (mq 52)) (C := RX11) (T := TX11) (N := 74) hx hb ha inlX11 hown hK hP 0 mw_at0 rfl 52 (by decide) (ha _ kf_X11_124) (fun _ h9 => h9) rfl dX11_measures_125 ?_
        refine lv_iload_n hx hb dX11_measures_128 rfl (lv_at hl 2 rfl) ?_
        refine lv_iconst (v := 1) hx hb dX11_measures_129 (by decide) ?_
        have hin_16 : vp_in f 4 := vpi_of (by omega) (by omega)
        refine va_zast hx hb hK hP hD hS 34 2 mw_at52 rfl hin_16 dX11_measures_130 (fun H locs hP hD hS => ?_)
        have hP : va_P D vwCl (mw cI cZ h0 mq mi (va_up ma_12 52 (upd (ma_12 52) f.toNatClampNeg (vp_nar .boolean (1 : Int32))))) H := mwP_52 hP
        have hD : va_D A (mw cI cZ h0 mq mi (va_up ma_12 52 (upd (ma_12 52) f.toNatClampNeg (vp_nar .boolean (1 : Int32))))) := mwD_52 hD
        generalize hma_17 : va_up ma_12 52 (upd (ma_12 52) f.toNatClampNeg (vp_nar .boolean (1 : Int32))) = ma_17 at hP hD
        have hI : MB mi ma_17 := by rw [← hma_17]; exact MBa_hasRound hI
        have hFA : ∀ k, k ∉ ([69, 51, 50, 52, 49] : List Nat) → ma_17 k = ma0 k := fun k hk => by rw [← hma_17]; exact (va_up_ne _ _ (fun e => hk (by rw [e]; decide))).trans (hFA k hk)
        have hE := bs_at hma_17 hE
        refine lv_aload_n hx hb dX11_measures_131 rfl (lv_at hl 1 rfl) ?_
        refine va_get (D := D) (ci := 11) (v := .ref (mq 50)) (C := RX11) (T := TX11) (N := 74) hx hb ha inlX11 hown hK hP 0 mw_at0 rfl 50 (by decide) (ha _ kf_X11_118) (fun _ h9 => h9) rfl dX11_measures_132 ?_
        refine lv_iload_n hx hb dX11_measures_135 rfl (lv_at hl 2 rfl) ?_
        refine lv_bipush (v := 8) hx hb dX11_measures_136 (by decide) ?_
        refine lv_iload_n hx hb dX11_measures_138 rfl (lv_at hl 0 rfl) ?_
        refine lv_imul hx hb dX11_measures_139 ?_
        refine lv_topi (fun x_18 ex_18 => ?_)
        have hE := bd_at ex_18 hE
        have hin_19 : vp_in f 4 := vpi_of (by omega) (by omega)
        refine va_iast hx hb hK hP hD hS 32 0 mw_at50 rfl hin_19 dX11_measures_140 (fun H locs hP hD hS => ?_)
        have hP : va_P D vwCl (mw cI cZ h0 mq mi (va_up ma_17 50 (upd (ma_17 50) f.toNatClampNeg x_18))) H := mwP_50 hP
        have hD : va_D A (mw cI cZ h0 mq mi (va_up ma_17 50 (upd (ma_17 50) f.toNatClampNeg x_18))) := mwD_50 hD
        generalize hma_20 : va_up ma_17 50 (upd (ma_17 50) f.toNatClampNeg x_18) = ma_20 at hP hD
        have hI : MB mi ma_20 := by rw [← hma_20]; exact MBa_srtt hI
        have hFA : ∀ k, k ∉ ([69, 51, 50, 52, 49] : List Nat) → ma_20 k = ma0 k := fun k hk => by rw [← hma_20]; exact (va_up_ne _ _ (fun e => hk (by rw [e]; decide))).trans (hFA k hk)
        have hE := bs_at hma_20 hE
        refine lv_aload_n hx hb dX11_measures_141 rfl (lv_at hl 1 rfl) ?_
        refine va_get (D := D) (ci := 11) (v := .ref (mq 51)) (C := RX11) (T := TX11) (N := 74) hx hb ha inlX11 hown hK hP 0 mw_at0 rfl 51 (by decide) (ha _ kf_X11_121) (fun _ h9 => h9) rfl dX11_measures_142 ?_
        refine lv_iload_n hx hb dX11_measures_145 rfl (lv_at hl 2 rfl) ?_
        refine lv_iconst (v := 2) hx hb dX11_measures_146 (by decide) ?_
        refine lv_iload_n hx hb dX11_measures_147 rfl (lv_at hl 0 rfl) ?_
        refine lv_imul hx hb dX11_measures_148 ?_
        refine lv_topi (fun x_21 ex_21 => ?_)
        have hE := bd_at ex_21 hE
        have hin_22 : vp_in f 4 := vpi_of (by omega) (by omega)
        refine va_iast hx hb hK hP hD hS 33 0 mw_at51 rfl hin_22 dX11_measures_149 (fun H locs hP hD hS => ?_)
        have hP : va_P D vwCl (mw cI cZ h0 mq mi (va_up ma_20 51 (upd (ma_20 51) f.toNatClampNeg x_21))) H := mwP_51 hP
        have hD : va_D A (mw cI cZ h0 mq mi (va_up ma_20 51 (upd (ma_20 51) f.toNatClampNeg x_21))) := mwD_51 hD
        generalize hma_23 : va_up ma_20 51 (upd (ma_20 51) f.toNatClampNeg x_21) = ma_23 at hP hD
        have hI : MB mi ma_23 := by rw [← hma_23]; exact MBa_var hI
        have hFA : ∀ k, k ∉ ([69, 51, 50, 52, 49] : List Nat) → ma_23 k = ma0 k := fun k hk => by rw [← hma_23]; exact (va_up_ne _ _ (fun e => hk (by rw [e]; decide))).trans (hFA k hk)
        have hE := bs_at hma_23 hE
        refine lv_aload_n hx hb dX11_measures_150 rfl (lv_at hl 1 rfl) ?_
        refine va_get (D := D) (ci := 11) (v := .ref (mq 50)) (C := RX11) (T := TX11) (N := 74) hx hb ha inlX11 hown hK hP 0 mw_at0 rfl 50 (by decide) (ha _ kf_X11_118) (fun _ h9 => h9) rfl dX11_measures_151 ?_
        refine lv_iload_n hx hb dX11_measures_154 rfl (lv_at hl 2 rfl) ?_
        have hin_24 : vp_in f 4 := vpi_of (by omega) (by omega)
        refine va_iald hx hb hK hP 32 0 mw_at50 rfl hin_24 dX11_measures_155 ?_
        refine lv_topi (fun x_25 ex_25 => ?_)
        have hE := bd_at ex_25 hE
        have u_x_25 := congrArg Int32.toInt ex_25
        refine lv_bipush (v := 8) hx hb dX11_measures_156 (by decide) ?_
        refine lv_idiv hx hb dX11_measures_158 (by decide) ?_
        refine lv_topi (fun x_26 ex_26 => ?_)
        have hE := bd_at ex_26 hE
        try have t_x_26 := ti_divc (k := 8) ex_26 tk_8 (by decide) (by omega)
        refine lv_aload_n hx hb dX11_measures_159 rfl (lv_at hl 1 rfl) ?_
        refine va_get (D := D) (ci := 11) (v := .ref (mq 51)) (C := RX11) (T := TX11) (N := 74) hx hb ha inlX11 hown hK hP 0 mw_at0 rfl 51 (by decide) (ha _ kf_X11_121) (fun _ h9 => h9) rfl dX11_measures_160 ?_
        refine lv_iload_n hx hb dX11_measures_163 rfl (lv_at hl 2 rfl) ?_
        have hin_27 : vp_in f 4 := vpi_of (by omega) (by omega)
        refine va_iald hx hb hK hP 33 0 mw_at51 rfl hin_27 dX11_measures_164 ?_
        refine lv_topi (fun x_28 ex_28 => ?_)
        have hE := bd_at ex_28 hE
        have u_x_28 := congrArg Int32.toInt ex_28
        refine lv_iconst (v := 1) hx hb dX11_measures_165 (by decide) ?_
        refine lv_icmp_le (tgt := 178) hx hb dX11_measures_166 (by decide) (fun c_29 => ?_) (fun c_29 => ?_)
        · have t_c_29 := Int32.le_iff_toInt_le.mp c_29
          have hE := hE.trans (if_pos c_29)
          refine lv_iconst (v := 1) hx hb dX11_measures_178 (by decide) ?_
          refine lv_iadd hx hb dX11_measures_179 ?_
          refine lv_topi (fun x_30 ex_30 => ?_)
          have hE := bd_at ex_30 hE
          refine lv_istore (lv' := [(4, .int x_30), (3, .int x_10), (0, .ref h0), (1, .int f), (2, .int a)]) hx hb dX11_measures_180 hl (by decide) rfl (fun ls hl => ?_)
          refine lv_aload_n hx hb dX11_measures_182 rfl (lv_at hl 2 rfl) ?_
          refine va_get (D := D) (ci := 11) (v := .ref (mq 49)) (C := RX11) (T := TX11) (N := 74) hx hb ha inlX11 hown hK hP 0 mw_at0 rfl 49 (by decide) (ha _ kf_X11_115) (fun _ h9 => h9) rfl dX11_measures_183 ?_
          refine lv_iload_n hx hb dX11_measures_186 rfl (lv_at hl 3 rfl) ?_
          refine lv_iload hx hb dX11_measures_187 (lv_at hl 0 rfl) ?_
          refine lv_sipush (v := 200) hx hb dX11_measures_189 (by decide) ?_
          refine lv_icmp_ge (tgt := 201) hx hb dX11_measures_192 (by decide) (fun c_31 => ?_) (fun c_31 => ?_)
          · have t_c_31 := Int32.le_iff_toInt_le.mp c_31
            have hE := hE.trans (if_pos c_31)
            refine lv_iload hx hb dX11_measures_201 (lv_at hl 0 rfl) ?_
            refine lv_ldcw (v := 60000) hx hb hown (ha _ kk_X11_293) dX11_measures_203 ?_
            refine lv_icmp_le (tgt := 215) hx hb dX11_measures_206 (by decide) (fun c_32 => ?_) (fun c_32 => ?_)
            · have t_c_32 := Int32.le_iff_toInt_le.mp c_32
              have hE := hE.trans (if_pos c_32)
              refine lv_iload hx hb dX11_measures_215 (lv_at hl 0 rfl) ?_
              have hin_33 : vp_in f 4 := vpi_of (by omega) (by omega)
              refine va_iast hx hb hK hP hD hS 31 0 mw_at49 rfl hin_33 dX11_measures_217 (fun H locs hP hD hS => ?_)
              have hP : va_P D vwCl (mw cI cZ h0 mq mi (va_up ma_23 49 (upd (ma_23 49) f.toNatClampNeg x_30))) H := mwP_49 hP
              have hD : va_D A (mw cI cZ h0 mq mi (va_up ma_23 49 (upd (ma_23 49) f.toNatClampNeg x_30))) := mwD_49 hD
              generalize hma_34 : va_up ma_23 49 (upd (ma_23 49) f.toNatClampNeg x_30) = ma_34 at hP hD
              have hI : MB mi ma_34 := by rw [← hma_34]; exact MBa_rto hI
              have hFA : ∀ k, k ∉ ([69, 51, 50, 52, 49] : List Nat) → ma_34 k = ma0 k := fun k hk => by rw [← hma_34]; exact (va_up_ne _ _ (fun e => hk (by rw [e]; decide))).trans (hFA k hk)
              have hE := bs_at hma_34 hE
              exact W.vret hx hb hr (fun t ht hW => ⟨⟨(), rfl, trivial, ⟨mi, ma_34, ⟨⟨hI, fun k hk => (hFI k hk).trans (by rw [hmi0]), fun k hk => (hFA k hk).trans (by rw [hma0])⟩, by rw [← hRES, hE], by rw [← hRES, hE]⟩, by rw [ht]; exact hP, va_K.moved hW.alike hK, hD⟩⟩, hS.F ht⟩) hS.2.2 dX11_measures_218
            · have t_c_32 := Int32.lt_iff_toInt_lt.mp (Int32.not_le.mp c_32)
              have hE := hE.trans (if_neg c_32)
              refine lv_ldcw (v := 60000) hx hb hown (ha _ kk_X11_293) dX11_measures_209 ?_
              refine lv_goto (tgt := 217) hx hb dX11_measures_212 (by decide) ?_
              have hin_35 : vp_in f 4 := vpi_of (by omega) (by omega)
              refine va_iast hx hb hK hP hD hS 31 0 mw_at49 rfl hin_35 dX11_measures_217 (fun H locs hP hD hS => ?_)
              have hP : va_P D vwCl (mw cI cZ h0 mq mi (va_up ma_23 49 (upd (ma_23 49) f.toNatClampNeg (60000 : Int32)))) H := mwP_49 hP
              have hD : va_D A (mw cI cZ h0 mq mi (va_up ma_23 49 (upd (ma_23 49) f.toNatClampNeg (60000 : Int32)))) := mwD_49 hD
              generalize hma_36 : va_up ma_23 49 (upd (ma_23 49) f.toNatClampNeg (60000 : Int32)) = ma_36 at hP hD
              have hI : MB mi ma_36 := by rw [← hma_36]; exact MBa_rto hI
              have hFA : ∀ k, k ∉ ([69, 51, 50, 52, 49] : List Nat) → ma_36 k = ma0 k := fun k hk => by rw [← hma_36]; exact (va_up_ne _ _ (fun e => hk (by rw [e]; decide))).trans (hFA k hk)
              have hE := bs_at hma_36 hE
              exact W.vret hx hb hr (fun t ht hW => ⟨⟨(), rfl, trivial, ⟨mi, ma_36, ⟨⟨hI, fun k hk => (hFI k hk).trans (by rw [hmi0]), fun k hk => (hFA k hk).trans (by rw [hma0])⟩, by rw [← hRES, hE], by rw [← hRES, hE]⟩, by rw [ht]; exact hP, va_K.moved hW.alike hK, hD⟩⟩, hS.F ht⟩) hS.2.2 dX11_measures_218
          · have t_c_31 := Int32.lt_iff_toInt_lt.mp (Int32.not_le.mp c_31)
            have hE := hE.trans (if_neg c_31)
            refine lv_sipush (v := 200) hx hb dX11_measures_195 (by decide) ?_
            refine lv_goto (tgt := 217) hx hb dX11_measures_198 (by decide) ?_
            have hin_37 : vp_in f 4 := vpi_of (by omega) (by omega)
            refine va_iast hx hb hK hP hD hS 31 0 mw_at49 rfl hin_37 dX11_measures_217 (fun H locs hP hD hS => ?_)
            have hP : va_P D vwCl (mw cI cZ h0 mq mi (va_up ma_23 49 (upd (ma_23 49) f.toNatClampNeg (200 : Int32)))) H := mwP_49 hP
            have hD : va_D A (mw cI cZ h0 mq mi (va_up ma_23 49 (upd (ma_23 49) f.toNatClampNeg (200 : Int32)))) := mwD_49 hD
            generalize hma_38 : va_up ma_23 49 (upd (ma_23 49) f.toNatClampNeg (200 : Int32)) = ma_38 at hP hD
            have hI : MB mi ma_38 := by rw [← hma_38]; exact MBa_rto hI
            have hFA : ∀ k, k ∉ ([69, 51, 50, 52, 49] : List Nat) → ma_38 k = ma0 k := fun k hk => by rw [← hma_38]; exact (va_up_ne _ _ (fun e => hk (by rw [e]; decide))).trans (hFA k hk)
            have hE := bs_at hma_38 hE
            exact W.vret hx hb hr (fun t ht hW => ⟨⟨(), rfl, trivial, ⟨mi, ma_38, ⟨⟨hI, fun k hk => (hFI k hk).trans (by rw [hmi0]), fun k hk => (hFA k hk).trans (by rw [hma0])⟩, by rw [← hRES, hE], by rw [← hRES, hE]⟩, by rw [ht]; exact hP, va_K.moved hW.alike hK, hD⟩⟩, hS.F ht⟩) hS.2.2 dX11_measures_218
        · have t_c_29 := Int32.lt_iff_toInt_lt.mp (Int32.not_le.mp c_29)
          have hE := hE.trans (if_neg c_29)
          refine lv_aload_n hx hb dX11_measures_169 rfl (lv_at hl 1 rfl) ?_
          refine va_get (D := D) (ci := 11) (v := .ref (mq 51)) (C := RX11) (T := TX11) (N := 74) hx hb ha inlX11 hown hK hP 0 mw_at0 rfl 51 (by decide) (ha _ kf_X11_121) (fun _ h9 => h9) rfl dX11_measures_170 ?_
          refine lv_iload_n hx hb dX11_measures_173 rfl (lv_at hl 2 rfl) ?_
          have hin_39 : vp_in f 4 := vpi_of (by omega) (by omega)
          refine va_iald hx hb hK hP 33 0 mw_at51 rfl hin_39 dX11_measures_174 ?_
          refine lv_topi (fun x_40 ex_40 => ?_)
          have hE := bd_at ex_40 hE
          have u_x_40 := congrArg Int32.toInt ex_40
          refine lv_goto (tgt := 179) hx hb dX11_measures_175 (by decide) ?_
          refine lv_iadd hx hb dX11_measures_179 ?_
          refine lv_topi (fun x_41 ex_41 => ?_)
          have hE := bd_at ex_41 hE
          refine lv_istore (lv' := [(4, .int x_41), (3, .int x_10), (0, .ref h0), (1, .int f), (2, .int a)]) hx hb dX11_measures_180 hl (by decide) rfl (fun ls hl => ?_)
          refine lv_aload_n hx hb dX11_measures_182 rfl (lv_at hl 2 rfl) ?_
          refine va_get (D := D) (ci := 11) (v := .ref (mq 49)) (C := RX11) (T := TX11) (N := 74) hx hb ha inlX11 hown hK hP 0 mw_at0 rfl 49 (by decide) (ha _ kf_X11_115) (fun _ h9 => h9) rfl dX11_measures_183 ?_
          refine lv_iload_n hx hb dX11_measures_186 rfl (lv_at hl 3 rfl) ?_
          refine lv_iload hx hb dX11_measures_187 (lv_at hl 0 rfl) ?_
          refine lv_sipush (v := 200) hx hb dX11_measures_189 (by decide) ?_
          refine lv_icmp_ge (tgt := 201) hx hb dX11_measures_192 (by decide) (fun c_42 => ?_) (fun c_42 => ?_)
          · have t_c_42 := Int32.le_iff_toInt_le.mp c_42
            have hE := hE.trans (if_pos c_42)
            refine lv_iload hx hb dX11_measures_201 (lv_at hl 0 rfl) ?_
            refine lv_ldcw (v := 60000) hx hb hown (ha _ kk_X11_293) dX11_measures_203 ?_
            refine lv_icmp_le (tgt := 215) hx hb dX11_measures_206 (by decide) (fun c_43 => ?_) (fun c_43 => ?_)
            · have t_c_43 := Int32.le_iff_toInt_le.mp c_43
              have hE := hE.trans (if_pos c_43)
              refine lv_iload hx hb dX11_measures_215 (lv_at hl 0 rfl) ?_
              have hin_44 : vp_in f 4 := vpi_of (by omega) (by omega)
              refine va_iast hx hb hK hP hD hS 31 0 mw_at49 rfl hin_44 dX11_measures_217 (fun H locs hP hD hS => ?_)
              have hP : va_P D vwCl (mw cI cZ h0 mq mi (va_up ma_23 49 (upd (ma_23 49) f.toNatClampNeg x_41))) H := mwP_49 hP
              have hD : va_D A (mw cI cZ h0 mq mi (va_up ma_23 49 (upd (ma_23 49) f.toNatClampNeg x_41))) := mwD_49 hD
              generalize hma_45 : va_up ma_23 49 (upd (ma_23 49) f.toNatClampNeg x_41) = ma_45 at hP hD
              have hI : MB mi ma_45 := by rw [← hma_45]; exact MBa_rto hI
              have hFA : ∀ k, k ∉ ([69, 51, 50, 52, 49] : List Nat) → ma_45 k = ma0 k := fun k hk => by rw [← hma_45]; exact (va_up_ne _ _ (fun e => hk (by rw [e]; decide))).trans (hFA k hk)
              have hE := bs_at hma_45 hE
              exact W.vret hx hb hr (fun t ht hW => ⟨⟨(), rfl, trivial, ⟨mi, ma_45, ⟨⟨hI, fun k hk => (hFI k hk).trans (by rw [hmi0]), fun k hk => (hFA k hk).trans (by rw [hma0])⟩, by rw [← hRES, hE], by rw [← hRES, hE]⟩, by rw [ht]; exact hP, va_K.moved hW.alike hK, hD⟩⟩, hS.F ht⟩) hS.2.2 dX11_measures_218
            · have t_c_43 := Int32.lt_iff_toInt_lt.mp (Int32.not_le.mp c_43)
              have hE := hE.trans (if_neg c_43)
              refine lv_ldcw (v := 60000) hx hb hown (ha _ kk_X11_293) dX11_measures_209 ?_
              refine lv_goto (tgt := 217) hx hb dX11_measures_212 (by decide) ?_
              have hin_46 : vp_in f 4 := vpi_of (by omega) (by omega)
              refine va_iast hx hb hK hP hD hS 31 0 mw_at49 rfl hin_46 dX11_measures_217 (fun H locs hP hD hS => ?_)
              have hP : va_P D vwCl (mw cI cZ h0 mq mi (va_up ma_23 49 (upd (ma_23 49) f.toNatClampNeg (60000 : Int32)))) H := mwP_49 hP
              have hD : va_D A (mw cI cZ h0 mq mi (va_up ma_23 49 (upd (ma_23 49) f.toNatClampNeg (60000 : Int32)))) := mwD_49 hD
              generalize hma_47 : va_up ma_23 49 (upd (ma_23 49) f.toNatClampNeg (60000 : Int32)) = ma_47 at hP hD
              have hI : MB mi ma_47 := by rw [← hma_47]; exact MBa_rto hI
              have hFA : ∀ k, k ∉ ([69, 51, 50, 52, 49] : List Nat) → ma_47 k = ma0 k := fun k hk => by rw [← hma_47]; exact (va_up_ne _ _ (fun e => hk (by rw [e]; decide))).trans (hFA k hk)
              have hE := bs_at hma_47 hE
              exact W.vret hx hb hr (fun t ht hW => ⟨⟨(), rfl, trivial, ⟨mi, ma_47, ⟨⟨hI, fun k hk => (hFI k hk).trans (by rw [hmi0]), fun k hk => (hFA k hk).trans (by rw [hma0])⟩, by rw [← hRES, hE], by rw [← hRES, hE]⟩, by rw [ht]; exact hP, va_K.moved hW.alike hK, hD⟩⟩, hS.F ht⟩) hS.2.2 dX11_measures_218
          · have t_c_42 := Int32.lt_iff_toInt_lt.mp (Int32.not_le.mp c_42)
            have hE := hE.trans (if_neg c_42)
            refine lv_sipush (v := 200) hx hb dX11_measures_195 (by decide) ?_
            refine lv_goto (tgt := 217) hx hb dX11_measures_198 (by decide) ?_
            have hin_48 : vp_in f 4 := vpi_of (by omega) (by omega)
            refine va_iast hx hb hK hP hD hS 31 0 mw_at49 rfl hin_48 dX11_measures_217 (fun H locs hP hD hS => ?_)
            have hP : va_P D vwCl (mw cI cZ h0 mq mi (va_up ma_23 49 (upd (ma_23 49) f.toNatClampNeg (200 : Int32)))) H := mwP_49 hP
            have hD : va_D A (mw cI cZ h0 mq mi (va_up ma_23 49 (upd (ma_23 49) f.toNatClampNeg (200 : Int32)))) := mwD_49 hD
            generalize hma_49 : va_up ma_23 49 (upd (ma_23 49) f.toNatClampNeg (200 : Int32)) = ma_49 at hP hD
            have hI : MB mi ma_49 := by rw [← hma_49]; exact MBa_rto hI
            have hFA : ∀ k, k ∉ ([69, 51, 50, 52, 49] : List Nat) → ma_49 k = ma0 k := fun k hk => by rw [← hma_49]; exact (va_up_ne _ _ (fun e => hk (by rw [e]; decide))).trans (hFA k hk)
            have hE := bs_at hma_49 hE
            exact W.vret hx hb hr (fun t ht hW => ⟨⟨(), rfl, trivial, ⟨mi, ma_49, ⟨⟨hI, fun k hk => (hFI k hk).trans (by rw [hmi0]), fun k hk => (hFA k hk).trans (by rw [hma0])⟩, by rw [← hRES, hE], by rw [← hRES, hE]⟩, by rw [ht]; exact hP, va_K.moved hW.alike hK, hD⟩⟩, hS.F ht⟩) hS.2.2 dX11_measures_218
      · have t_c_15 := mt Int32.toInt_inj.mp c_15
        have hE := hE.trans (if_neg c_15)
        refine lv_aload_n hx hb dX11_measures_49 rfl (lv_at hl 1 rfl) ?_
        refine va_get (D := D) (ci := 11) (v := .ref (mq 50)) (C := RX11) (T := TX11) (N := 74) hx hb ha inlX11 hown hK hP 0 mw_at0 rfl 50 (by decide) (ha _ kf_X11_118) (fun _ h9 => h9) rfl dX11_measures_50 ?_
        refine lv_iload_n hx hb dX11_measures_53 rfl (lv_at hl 2 rfl) ?_
        have hin_50 : vp_in f 4 := vpi_of (by omega) (by omega)
        refine va_iald hx hb hK hP 32 0 mw_at50 rfl hin_50 dX11_measures_54 ?_
        refine lv_topi (fun x_51 ex_51 => ?_)
        have hE := bd_at ex_51 hE
        have u_x_51 := congrArg Int32.toInt ex_51
        refine lv_bipush (v := 8) hx hb dX11_measures_55 (by decide) ?_
        refine lv_idiv hx hb dX11_measures_57 (by decide) ?_
        refine lv_topi (fun x_52 ex_52 => ?_)
        have hE := bd_at ex_52 hE
        try have t_x_52 := ti_divc (k := 8) ex_52 tk_8 (by decide) (by omega)
        refine lv_iload_n hx hb dX11_measures_58 rfl (lv_at hl 0 rfl) ?_
        refine lv_isub hx hb dX11_measures_59 ?_
        refine lv_topi (fun x_53 ex_53 => ?_)
        have hE := bd_at ex_53 hE
        refine lv_istore (lv' := [(4, .int x_53), (3, .int x_10), (0, .ref h0), (1, .int f), (2, .int a)]) hx hb dX11_measures_60 hl (by decide) rfl (fun ls hl => ?_)
        refine lv_aload_n hx hb dX11_measures_62 rfl (lv_at hl 2 rfl) ?_
        refine va_get (D := D) (ci := 11) (v := .ref (mq 51)) (C := RX11) (T := TX11) (N := 74) hx hb ha inlX11 hown hK hP 0 mw_at0 rfl 51 (by decide) (ha _ kf_X11_121) (fun _ h9 => h9) rfl dX11_measures_63 ?_
        refine lv_iload_n hx hb dX11_measures_66 rfl (lv_at hl 3 rfl) ?_
        refine lv_aload_n hx hb dX11_measures_67 rfl (lv_at hl 2 rfl) ?_
        refine va_get (D := D) (ci := 11) (v := .ref (mq 51)) (C := RX11) (T := TX11) (N := 74) hx hb ha inlX11 hown hK hP 0 mw_at0 rfl 51 (by decide) (ha _ kf_X11_121) (fun _ h9 => h9) rfl dX11_measures_68 ?_
        refine lv_iload_n hx hb dX11_measures_71 rfl (lv_at hl 3 rfl) ?_
        have hin_54 : vp_in f 4 := vpi_of (by omega) (by omega)
        refine va_iald hx hb hK hP 33 0 mw_at51 rfl hin_54 dX11_measures_72 ?_
        refine lv_topi (fun x_55 ex_55 => ?_)
        have hE := bd_at ex_55 hE
        have u_x_55 := congrArg Int32.toInt ex_55
        refine lv_aload_n hx hb dX11_measures_73 rfl (lv_at hl 2 rfl) ?_
        refine va_get (D := D) (ci := 11) (v := .ref (mq 51)) (C := RX11) (T := TX11) (N := 74) hx hb ha inlX11 hown hK hP 0 mw_at0 rfl 51 (by decide) (ha _ kf_X11_121) (fun _ h9 => h9) rfl dX11_measures_74 ?_
        refine lv_iload_n hx hb dX11_measures_77 rfl (lv_at hl 3 rfl) ?_
        have hin_56 : vp_in f 4 := vpi_of (by omega) (by omega)
        refine va_iald hx hb hK hP 33 0 mw_at51 rfl hin_56 dX11_measures_78 ?_
        refine lv_topi (fun x_57 ex_57 => ?_)
        have hE := bd_at ex_57 hE
        have u_x_57 := congrArg Int32.toInt ex_57
        refine lv_iconst (v := 4) hx hb dX11_measures_79 (by decide) ?_
        refine lv_idiv hx hb dX11_measures_80 (by decide) ?_
        refine lv_topi (fun x_58 ex_58 => ?_)
        have hE := bd_at ex_58 hE
        try have t_x_58 := ti_divc (k := 4) ex_58 tk_4 (by decide) (by omega)
        refine lv_isub hx hb dX11_measures_81 ?_
        refine lv_topi (fun x_59 ex_59 => ?_)
        have hE := bd_at ex_59 hE
        refine lv_iload hx hb dX11_measures_82 (lv_at hl 0 rfl) ?_
        refine lv_if_ge (tgt := 93) hx hb dX11_measures_84 (by decide) (fun c_60 => ?_) (fun c_60 => ?_)
        · have t_c_60 := Int32.le_iff_toInt_le.mp c_60
          have hE := hE.trans (if_pos c_60)
          refine lv_iload hx hb dX11_measures_93 (lv_at hl 0 rfl) ?_
          refine lv_iadd hx hb dX11_measures_95 ?_
          refine lv_topi (fun x_61 ex_61 => ?_)
          have hE := bd_at ex_61 hE
          have hin_62 : vp_in f 4 := vpi_of (by omega) (by omega)
          refine va_iast hx hb hK hP hD hS 33 0 mw_at51 rfl hin_62 dX11_measures_96 (fun H locs hP hD hS => ?_)
          have hP : va_P D vwCl (mw cI cZ h0 mq mi (va_up ma_12 51 (upd (ma_12 51) f.toNatClampNeg x_61))) H := mwP_51 hP
          have hD : va_D A (mw cI cZ h0 mq mi (va_up ma_12 51 (upd (ma_12 51) f.toNatClampNeg x_61))) := mwD_51 hD
          generalize hma_63 : va_up ma_12 51 (upd (ma_12 51) f.toNatClampNeg x_61) = ma_63 at hP hD
          have hI : MB mi ma_63 := by rw [← hma_63]; exact MBa_var hI
          have hFA : ∀ k, k ∉ ([69, 51, 50, 52, 49] : List Nat) → ma_63 k = ma0 k := fun k hk => by rw [← hma_63]; exact (va_up_ne _ _ (fun e => hk (by rw [e]; decide))).trans (hFA k hk)
          have hE := bs_at hma_63 hE
          refine lv_aload_n hx hb dX11_measures_97 rfl (lv_at hl 2 rfl) ?_
          refine va_get (D := D) (ci := 11) (v := .ref (mq 50)) (C := RX11) (T := TX11) (N := 74) hx hb ha inlX11 hown hK hP 0 mw_at0 rfl 50 (by decide) (ha _ kf_X11_118) (fun _ h9 => h9) rfl dX11_measures_98 ?_
          refine lv_iload_n hx hb dX11_measures_101 rfl (lv_at hl 3 rfl) ?_
          refine lv_aload_n hx hb dX11_measures_102 rfl (lv_at hl 2 rfl) ?_
          refine va_get (D := D) (ci := 11) (v := .ref (mq 50)) (C := RX11) (T := TX11) (N := 74) hx hb ha inlX11 hown hK hP 0 mw_at0 rfl 50 (by decide) (ha _ kf_X11_118) (fun _ h9 => h9) rfl dX11_measures_103 ?_
          refine lv_iload_n hx hb dX11_measures_106 rfl (lv_at hl 3 rfl) ?_
          have hin_64 : vp_in f 4 := vpi_of (by omega) (by omega)
          refine va_iald hx hb hK hP 32 0 mw_at50 rfl hin_64 dX11_measures_107 ?_
          refine lv_topi (fun x_65 ex_65 => ?_)
          have hE := bd_at ex_65 hE
          have u_x_65 := congrArg Int32.toInt ex_65
          have q_x_65 : x_65.toInt = x_51.toInt := congrArg Int32.toInt (ex_65.trans (((congrFun (congrFun hma_63 50) _).symm).trans (ex_51.symm)))
          refine lv_aload_n hx hb dX11_measures_108 rfl (lv_at hl 2 rfl) ?_
          refine va_get (D := D) (ci := 11) (v := .ref (mq 50)) (C := RX11) (T := TX11) (N := 74) hx hb ha inlX11 hown hK hP 0 mw_at0 rfl 50 (by decide) (ha _ kf_X11_118) (fun _ h9 => h9) rfl dX11_measures_109 ?_
          refine lv_iload_n hx hb dX11_measures_112 rfl (lv_at hl 3 rfl) ?_
          have hin_66 : vp_in f 4 := vpi_of (by omega) (by omega)
          refine va_iald hx hb hK hP 32 0 mw_at50 rfl hin_66 dX11_measures_113 ?_
          refine lv_topi (fun x_67 ex_67 => ?_)
          have hE := bd_at ex_67 hE
          have u_x_67 := congrArg Int32.toInt ex_67
          refine lv_bipush (v := 8) hx hb dX11_measures_114 (by decide) ?_
          refine lv_idiv hx hb dX11_measures_116 (by decide) ?_
          refine lv_topi (fun x_68 ex_68 => ?_)
          have hE := bd_at ex_68 hE
          try have t_x_68 := ti_divc (k := 8) ex_68 tk_8 (by decide) (by omega)
          refine lv_isub hx hb dX11_measures_117 ?_
          refine lv_topi (fun x_69 ex_69 => ?_)
          have hE := bd_at ex_69 hE
          refine lv_iload_n hx hb dX11_measures_118 rfl (lv_at hl 1 rfl) ?_
          refine lv_iadd hx hb dX11_measures_119 ?_
          refine lv_topi (fun x_70 ex_70 => ?_)
          have hE := bd_at ex_70 hE
          have hin_71 : vp_in f 4 := vpi_of (by omega) (by omega)
          refine va_iast hx hb hK hP hD hS 32 0 mw_at50 rfl hin_71 dX11_measures_120 (fun H locs hP hD hS => ?_)
          have hP : va_P D vwCl (mw cI cZ h0 mq mi (va_up ma_63 50 (upd (ma_63 50) f.toNatClampNeg x_70))) H := mwP_50 hP
          have hD : va_D A (mw cI cZ h0 mq mi (va_up ma_63 50 (upd (ma_63 50) f.toNatClampNeg x_70))) := mwD_50 hD
          generalize hma_72 : va_up ma_63 50 (upd (ma_63 50) f.toNatClampNeg x_70) = ma_72 at hP hD
          have hI : MB mi ma_72 := by rw [← hma_72]; exact MBa_srtt hI
          have hFA : ∀ k, k ∉ ([69, 51, 50, 52, 49] : List Nat) → ma_72 k = ma0 k := fun k hk => by rw [← hma_72]; exact (va_up_ne _ _ (fun e => hk (by rw [e]; decide))).trans (hFA k hk)
          have hE := bs_at hma_72 hE
          refine lv_goto (tgt := 150) hx hb dX11_measures_121 (by decide) ?_
          refine lv_aload_n hx hb dX11_measures_150 rfl (lv_at hl 2 rfl) ?_
          refine va_get (D := D) (ci := 11) (v := .ref (mq 50)) (C := RX11) (T := TX11) (N := 74) hx hb ha inlX11 hown hK hP 0 mw_at0 rfl 50 (by decide) (ha _ kf_X11_118) (fun _ h9 => h9) rfl dX11_measures_151 ?_
          refine lv_iload_n hx hb dX11_measures_154 rfl (lv_at hl 3 rfl) ?_
          have hin_73 : vp_in f 4 := vpi_of (by omega) (by omega)
          refine va_iald hx hb hK hP 32 0 mw_at50 rfl hin_73 dX11_measures_155 ?_
          refine lv_topi (fun x_74 ex_74 => ?_)
          have hE := bd_at ex_74 hE
          have u_x_74 := congrArg Int32.toInt ex_74
          refine lv_bipush (v := 8) hx hb dX11_measures_156 (by decide) ?_
          refine lv_idiv hx hb dX11_measures_158 (by decide) ?_
          refine lv_topi (fun x_75 ex_75 => ?_)
          have hE := bd_at ex_75 hE
          try have t_x_75 := ti_divc (k := 8) ex_75 tk_8 (by decide) (by omega)
          refine lv_aload_n hx hb dX11_measures_159 rfl (lv_at hl 2 rfl) ?_
          refine va_get (D := D) (ci := 11) (v := .ref (mq 51)) (C := RX11) (T := TX11) (N := 74) hx hb ha inlX11 hown hK hP 0 mw_at0 rfl 51 (by decide) (ha _ kf_X11_121) (fun _ h9 => h9) rfl dX11_measures_160 ?_
          refine lv_iload_n hx hb dX11_measures_163 rfl (lv_at hl 3 rfl) ?_
          have hin_76 : vp_in f 4 := vpi_of (by omega) (by omega)
          refine va_iald hx hb hK hP 33 0 mw_at51 rfl hin_76 dX11_measures_164 ?_
          refine lv_topi (fun x_77 ex_77 => ?_)
          have hE := bd_at ex_77 hE
          have u_x_77 := congrArg Int32.toInt ex_77
          refine lv_iconst (v := 1) hx hb dX11_measures_165 (by decide) ?_
          refine lv_icmp_le (tgt := 178) hx hb dX11_measures_166 (by decide) (fun c_78 => ?_) (fun c_78 => ?_)
          · have t_c_78 := Int32.le_iff_toInt_le.mp c_78
            have hE := hE.trans (if_pos c_78)
            refine lv_iconst (v := 1) hx hb dX11_measures_178 (by decide) ?_
            refine lv_iadd hx hb dX11_measures_179 ?_
            refine lv_topi (fun x_79 ex_79 => ?_)
            have hE := bd_at ex_79 hE
            refine lv_istore (lv' := [(4, .int x_79), (3, .int x_10), (0, .ref h0), (1, .int f), (2, .int a)]) hx hb dX11_measures_180 hl (by decide) rfl (fun ls hl => ?_)
            refine lv_aload_n hx hb dX11_measures_182 rfl (lv_at hl 2 rfl) ?_
            refine va_get (D := D) (ci := 11) (v := .ref (mq 49)) (C := RX11) (T := TX11) (N := 74) hx hb ha inlX11 hown hK hP 0 mw_at0 rfl 49 (by decide) (ha _ kf_X11_115) (fun _ h9 => h9) rfl dX11_measures_183 ?_
            refine lv_iload_n hx hb dX11_measures_186 rfl (lv_at hl 3 rfl) ?_
            refine lv_iload hx hb dX11_measures_187 (lv_at hl 0 rfl) ?_
            refine lv_sipush (v := 200) hx hb dX11_measures_189 (by decide) ?_
            refine lv_icmp_ge (tgt := 201) hx hb dX11_measures_192 (by decide) (fun c_80 => ?_) (fun c_80 => ?_)
            · have t_c_80 := Int32.le_iff_toInt_le.mp c_80
              have hE := hE.trans (if_pos c_80)
              refine lv_iload hx hb dX11_measures_201 (lv_at hl 0 rfl) ?_
              refine lv_ldcw (v := 60000) hx hb hown (ha _ kk_X11_293) dX11_measures_203 ?_
              refine lv_icmp_le (tgt := 215) hx hb dX11_measures_206 (by decide) (fun c_81 => ?_) (fun c_81 => ?_)
              · have t_c_81 := Int32.le_iff_toInt_le.mp c_81
                have hE := hE.trans (if_pos c_81)
                refine lv_iload hx hb dX11_measures_215 (lv_at hl 0 rfl) ?_
                have hin_82 : vp_in f 4 := vpi_of (by omega) (by omega)
                refine va_iast hx hb hK hP hD hS 31 0 mw_at49 rfl hin_82 dX11_measures_217 (fun H locs hP hD hS => ?_)
                have hP : va_P D vwCl (mw cI cZ h0 mq mi (va_up ma_72 49 (upd (ma_72 49) f.toNatClampNeg x_79))) H := mwP_49 hP
                have hD : va_D A (mw cI cZ h0 mq mi (va_up ma_72 49 (upd (ma_72 49) f.toNatClampNeg x_79))) := mwD_49 hD
                generalize hma_83 : va_up ma_72 49 (upd (ma_72 49) f.toNatClampNeg x_79) = ma_83 at hP hD
                have hI : MB mi ma_83 := by rw [← hma_83]; exact MBa_rto hI
                have hFA : ∀ k, k ∉ ([69, 51, 50, 52, 49] : List Nat) → ma_83 k = ma0 k := fun k hk => by rw [← hma_83]; exact (va_up_ne _ _ (fun e => hk (by rw [e]; decide))).trans (hFA k hk)
                have hE := bs_at hma_83 hE
                exact W.vret hx hb hr (fun t ht hW => ⟨⟨(), rfl, trivial, ⟨mi, ma_83, ⟨⟨hI, fun k hk => (hFI k hk).trans (by rw [hmi0]), fun k hk => (hFA k hk).trans (by rw [hma0])⟩, by rw [← hRES, hE], by rw [← hRES, hE]⟩, by rw [ht]; exact hP, va_K.moved hW.alike hK, hD⟩⟩, hS.F ht⟩) hS.2.2 dX11_measures_218
              · have t_c_81 := Int32.lt_iff_toInt_lt.mp (Int32.not_le.mp c_81)
                have hE := hE.trans (if_neg c_81)
                refine lv_ldcw (v := 60000) hx hb hown (ha _ kk_X11_293) dX11_measures_209 ?_
                refine lv_goto (tgt := 217) hx hb dX11_measures_212 (by decide) ?_
                have hin_84 : vp_in f 4 := vpi_of (by omega) (by omega)
                refine va_iast hx hb hK hP hD hS 31 0 mw_at49 rfl hin_84 dX11_measures_217 (fun H locs hP hD hS => ?_)
                have hP : va_P D vwCl (mw cI cZ h0 mq mi (va_up ma_72 49 (upd (ma_72 49) f.toNatClampNeg (60000 : Int32)))) H := mwP_49 hP
                have hD : va_D A (mw cI cZ h0 mq mi (va_up ma_72 49 (upd (ma_72 49) f.toNatClampNeg (60000 : Int32)))) := mwD_49 hD
                generalize hma_85 : va_up ma_72 49 (upd (ma_72 49) f.toNatClampNeg (60000 : Int32)) = ma_85 at hP hD
                have hI : MB mi ma_85 := by rw [← hma_85]; exact MBa_rto hI
                have hFA : ∀ k, k ∉ ([69, 51, 50, 52, 49] : List Nat) → ma_85 k = ma0 k := fun k hk => by rw [← hma_85]; exact (va_up_ne _ _ (fun e => hk (by rw [e]; decide))).trans (hFA k hk)
                have hE := bs_at hma_85 hE
                exact W.vret hx hb hr (fun t ht hW => ⟨⟨(), rfl, trivial, ⟨mi, ma_85, ⟨⟨hI, fun k hk => (hFI k hk).trans (by rw [hmi0]), fun k hk => (hFA k hk).trans (by rw [hma0])⟩, by rw [← hRES, hE], by rw [← hRES, hE]⟩, by rw [ht]; exact hP, va_K.moved hW.alike hK, hD⟩⟩, hS.F ht⟩) hS.2.2 dX11_measures_218
            · have t_c_80 := Int32.lt_iff_toInt_lt.mp (Int32.not_le.mp c_80)
              have hE := hE.trans (if_neg c_80)
              refine lv_sipush (v := 200) hx hb dX11_measures_195 (by decide) ?_
              refine lv_goto (tgt := 217) hx hb dX11_measures_198 (by decide) ?_
              have hin_86 : vp_in f 4 := vpi_of (by omega) (by omega)
              refine va_iast hx hb hK hP hD hS 31 0 mw_at49 rfl hin_86 dX11_measures_217 (fun H locs hP hD hS => ?_)
              have hP : va_P D vwCl (mw cI cZ h0 mq mi (va_up ma_72 49 (upd (ma_72 49) f.toNatClampNeg (200 : Int32)))) H := mwP_49 hP
              have hD : va_D A (mw cI cZ h0 mq mi (va_up ma_72 49 (upd (ma_72 49) f.toNatClampNeg (200 : Int32)))) := mwD_49 hD
              generalize hma_87 : va_up ma_72 49 (upd (ma_72 49) f.toNatClampNeg (200 : Int32)) = ma_87 at hP hD
              have hI : MB mi ma_87 := by rw [← hma_87]; exact MBa_rto hI
              have hFA : ∀ k, k ∉ ([69, 51, 50, 52, 49] : List Nat) → ma_87 k = ma0 k := fun k hk => by rw [← hma_87]; exact (va_up_ne _ _ (fun e => hk (by rw [e]; decide))).trans (hFA k hk)
              have hE := bs_at hma_87 hE
              exact W.vret hx hb hr (fun t ht hW => ⟨⟨(), rfl, trivial, ⟨mi, ma_87, ⟨⟨hI, fun k hk => (hFI k hk).trans (by rw [hmi0]), fun k hk => (hFA k hk).trans (by rw [hma0])⟩, by rw [← hRES, hE], by rw [← hRES, hE]⟩, by rw [ht]; exact hP, va_K.moved hW.alike hK, hD⟩⟩, hS.F ht⟩) hS.2.2 dX11_measures_218
          · have t_c_78 := Int32.lt_iff_toInt_lt.mp (Int32.not_le.mp c_78)
            have hE := hE.trans (if_neg c_78)
            refine lv_aload_n hx hb dX11_measures_169 rfl (lv_at hl 2 rfl) ?_
            refine va_get (D := D) (ci := 11) (v := .ref (mq 51)) (C := RX11) (T := TX11) (N := 74) hx hb ha inlX11 hown hK hP 0 mw_at0 rfl 51 (by decide) (ha _ kf_X11_121) (fun _ h9 => h9) rfl dX11_measures_170 ?_
            refine lv_iload_n hx hb dX11_measures_173 rfl (lv_at hl 3 rfl) ?_
            have hin_88 : vp_in f 4 := vpi_of (by omega) (by omega)
            refine va_iald hx hb hK hP 33 0 mw_at51 rfl hin_88 dX11_measures_174 ?_
            refine lv_topi (fun x_89 ex_89 => ?_)
            have hE := bd_at ex_89 hE
            have u_x_89 := congrArg Int32.toInt ex_89
            refine lv_goto (tgt := 179) hx hb dX11_measures_175 (by decide) ?_
            refine lv_iadd hx hb dX11_measures_179 ?_
            refine lv_topi (fun x_90 ex_90 => ?_)
            have hE := bd_at ex_90 hE
            refine lv_istore (lv' := [(4, .int x_90), (3, .int x_10), (0, .ref h0), (1, .int f), (2, .int a)]) hx hb dX11_measures_180 hl (by decide) rfl (fun ls hl => ?_)
            refine lv_aload_n hx hb dX11_measures_182 rfl (lv_at hl 2 rfl) ?_
            refine va_get (D := D) (ci := 11) (v := .ref (mq 49)) (C := RX11) (T := TX11) (N := 74) hx hb ha inlX11 hown hK hP 0 mw_at0 rfl 49 (by decide) (ha _ kf_X11_115) (fun _ h9 => h9) rfl dX11_measures_183 ?_
            refine lv_iload_n hx hb dX11_measures_186 rfl (lv_at hl 3 rfl) ?_
            refine lv_iload hx hb dX11_measures_187 (lv_at hl 0 rfl) ?_
            refine lv_sipush (v := 200) hx hb dX11_measures_189 (by decide) ?_
            refine lv_icmp_ge (tgt := 201) hx hb dX11_measures_192 (by decide) (fun c_91 => ?_) (fun c_91 => ?_)
            · have t_c_91 := Int32.le_iff_toInt_le.mp c_91
              have hE := hE.trans (if_pos c_91)
              refine lv_iload hx hb dX11_measures_201 (lv_at hl 0 rfl) ?_
              refine lv_ldcw (v := 60000) hx hb hown (ha _ kk_X11_293) dX11_measures_203 ?_
              refine lv_icmp_le (tgt := 215) hx hb dX11_measures_206 (by decide) (fun c_92 => ?_) (fun c_92 => ?_)
              · have t_c_92 := Int32.le_iff_toInt_le.mp c_92
                have hE := hE.trans (if_pos c_92)
                refine lv_iload hx hb dX11_measures_215 (lv_at hl 0 rfl) ?_
                have hin_93 : vp_in f 4 := vpi_of (by omega) (by omega)
                refine va_iast hx hb hK hP hD hS 31 0 mw_at49 rfl hin_93 dX11_measures_217 (fun H locs hP hD hS => ?_)
                have hP : va_P D vwCl (mw cI cZ h0 mq mi (va_up ma_72 49 (upd (ma_72 49) f.toNatClampNeg x_90))) H := mwP_49 hP
                have hD : va_D A (mw cI cZ h0 mq mi (va_up ma_72 49 (upd (ma_72 49) f.toNatClampNeg x_90))) := mwD_49 hD
                generalize hma_94 : va_up ma_72 49 (upd (ma_72 49) f.toNatClampNeg x_90) = ma_94 at hP hD
                have hI : MB mi ma_94 := by rw [← hma_94]; exact MBa_rto hI
                have hFA : ∀ k, k ∉ ([69, 51, 50, 52, 49] : List Nat) → ma_94 k = ma0 k := fun k hk => by rw [← hma_94]; exact (va_up_ne _ _ (fun e => hk (by rw [e]; decide))).trans (hFA k hk)
                have hE := bs_at hma_94 hE
                exact W.vret hx hb hr (fun t ht hW => ⟨⟨(), rfl, trivial, ⟨mi, ma_94, ⟨⟨hI, fun k hk => (hFI k hk).trans (by rw [hmi0]), fun k hk => (hFA k hk).trans (by rw [hma0])⟩, by rw [← hRES, hE], by rw [← hRES, hE]⟩, by rw [ht]; exact hP, va_K.moved hW.alike hK, hD⟩⟩, hS.F ht⟩) hS.2.2 dX11_measures_218
              · have t_c_92 := Int32.lt_iff_toInt_lt.mp (Int32.not_le.mp c_92)
                have hE := hE.trans (if_neg c_92)
                refine lv_ldcw (v := 60000) hx hb hown (ha _ kk_X11_293) dX11_measures_209 ?_
                refine lv_goto (tgt := 217) hx hb dX11_measures_212 (by decide) ?_
                have hin_95 : vp_in f 4 := vpi_of (by omega) (by omega)
                refine va_iast hx hb hK hP hD hS 31 0 mw_at49 rfl hin_95 dX11_measures_217 (fun H locs hP hD hS => ?_)
                have hP : va_P D vwCl (mw cI cZ h0 mq mi (va_up ma_72 49 (upd (ma_72 49) f.toNatClampNeg (60000 : Int32)))) H := mwP_49 hP
                have hD : va_D A (mw cI cZ h0 mq mi (va_up ma_72 49 (upd (ma_72 49) f.toNatClampNeg (60000 : Int32)))) := mwD_49 hD
                generalize hma_96 : va_up ma_72 49 (upd (ma_72 49) f.toNatClampNeg (60000 : Int32)) = ma_96 at hP hD
                have hI : MB mi ma_96 := by rw [← hma_96]; exact MBa_rto hI
                have hFA : ∀ k, k ∉ ([69, 51, 50, 52, 49] : List Nat) → ma_96 k = ma0 k := fun k hk => by rw [← hma_96]; exact (va_up_ne _ _ (fun e => hk (by rw [e]; decide))).trans (hFA k hk)
                have hE := bs_at hma_96 hE
                exact W.vret hx hb hr (fun t ht hW => ⟨⟨(), rfl, trivial, ⟨mi, ma_96, ⟨⟨hI, fun k hk => (hFI k hk).trans (by rw [hmi0]), fun k hk => (hFA k hk).trans (by rw [hma0])⟩, by rw [← hRES, hE], by rw [← hRES, hE]⟩, by rw [ht]; exact hP, va_K.moved hW.alike hK, hD⟩⟩, hS.F ht⟩) hS.2.2 dX11_measures_218
            · have t_c_91 := Int32.lt_iff_toInt_lt.mp (Int32.not_le.mp c_91)
              have hE := hE.trans (if_neg c_91)
              refine lv_sipush (v := 200) hx hb dX11_measures_195 (by decide) ?_
              refine lv_goto (tgt := 217) hx hb dX11_measures_198 (by decide) ?_
              have hin_97 : vp_in f 4 := vpi_of (by omega) (by omega)
              refine va_iast hx hb hK hP hD hS 31 0 mw_at49 rfl hin_97 dX11_measures_217 (fun H locs hP hD hS => ?_)
              have hP : va_P D vwCl (mw cI cZ h0 mq mi (va_up ma_72 49 (upd (ma_72 49) f.toNatClampNeg (200 : Int32)))) H := mwP_49 hP
              have hD : va_D A (mw cI cZ h0 mq mi (va_up ma_72 49 (upd (ma_72 49) f.toNatClampNeg (200 : Int32)))) := mwD_49 hD
              generalize hma_98 : va_up ma_72 49 (upd (ma_72 49) f.toNatClampNeg (200 : Int32)) = ma_98 at hP hD
              have hI : MB mi ma_98 := by rw [← hma_98]; exact MBa_rto hI
              have hFA : ∀ k, k ∉ ([69, 51, 50, 52, 49] : List Nat) → ma_98 k = ma0 k := fun k hk => by rw [← hma_98]; exact (va_up_ne _ _ (fun e => hk (by rw [e]; decide))).trans (hFA k hk)
              have hE := bs_at hma_98 hE
              exact W.vret hx hb hr (fun t ht hW => ⟨⟨(), rfl, trivial, ⟨mi, ma_98, ⟨⟨hI, fun k hk => (hFI k hk).trans (by rw [hmi0]), fun k hk => (hFA k hk).trans (by rw [hma0])⟩, by rw [← hRES, hE], by rw [← hRES, hE]⟩, by rw [ht]; exact hP, va_K.moved hW.alike hK, hD⟩⟩, hS.F ht⟩) hS.2.2 dX11_measures_218
        · have t_c_60 := Int32.lt_iff_toInt_lt.mp (Int32.not_le.mp c_60)
          have hE := hE.trans (if_neg c_60)
          refine lv_iload hx hb dX11_measures_87 (lv_at hl 0 rfl) ?_
          refine lv_ineg hx hb dX11_measures_89 ?_
          refine lv_topi (fun x_99 ex_99 => ?_)
          have hE := bd_at ex_99 hE
          refine lv_goto (tgt := 95) hx hb dX11_measures_90 (by decide) ?_
          refine lv_iadd hx hb dX11_measures_95 ?_
          refine lv_topi (fun x_100 ex_100 => ?_)
          have hE := bd_at ex_100 hE
          have hin_101 : vp_in f 4 := vpi_of (by omega) (by omega)
          refine va_iast hx hb hK hP hD hS 33 0 mw_at51 rfl hin_101 dX11_measures_96 (fun H locs hP hD hS => ?_)
          have hP : va_P D vwCl (mw cI cZ h0 mq mi (va_up ma_12 51 (upd (ma_12 51) f.toNatClampNeg x_100))) H := mwP_51 hP
          have hD : va_D A (mw cI cZ h0 mq mi (va_up ma_12 51 (upd (ma_12 51) f.toNatClampNeg x_100))) := mwD_51 hD
          generalize hma_102 : va_up ma_12 51 (upd (ma_12 51) f.toNatClampNeg x_100) = ma_102 at hP hD
          have hI : MB mi ma_102 := by rw [← hma_102]; exact MBa_var hI
          have hFA : ∀ k, k ∉ ([69, 51, 50, 52, 49] : List Nat) → ma_102 k = ma0 k := fun k hk => by rw [← hma_102]; exact (va_up_ne _ _ (fun e => hk (by rw [e]; decide))).trans (hFA k hk)
          have hE := bs_at hma_102 hE
          refine lv_aload_n hx hb dX11_measures_97 rfl (lv_at hl 2 rfl) ?_
          refine va_get (D := D) (ci := 11) (v := .ref (mq 50)) (C := RX11) (T := TX11) (N := 74) hx hb ha inlX11 hown hK hP 0 mw_at0 rfl 50 (by decide) (ha _ kf_X11_118) (fun _ h9 => h9) rfl dX11_measures_98 ?_
          refine lv_iload_n hx hb dX11_measures_101 rfl (lv_at hl 3 rfl) ?_
          refine lv_aload_n hx hb dX11_measures_102 rfl (lv_at hl 2 rfl) ?_
          refine va_get (D := D) (ci := 11) (v := .ref (mq 50)) (C := RX11) (T := TX11) (N := 74) hx hb ha inlX11 hown hK hP 0 mw_at0 rfl 50 (by decide) (ha _ kf_X11_118) (fun _ h9 => h9) rfl dX11_measures_103 ?_
          refine lv_iload_n hx hb dX11_measures_106 rfl (lv_at hl 3 rfl) ?_
          have hin_103 : vp_in f 4 := vpi_of (by omega) (by omega)
          refine va_iald hx hb hK hP 32 0 mw_at50 rfl hin_103 dX11_measures_107 ?_
          refine lv_topi (fun x_104 ex_104 => ?_)
          have hE := bd_at ex_104 hE
          have u_x_104 := congrArg Int32.toInt ex_104
          have q_x_104 : x_104.toInt = x_51.toInt := congrArg Int32.toInt (ex_104.trans (((congrFun (congrFun hma_102 50) _).symm).trans (ex_51.symm)))
          refine lv_aload_n hx hb dX11_measures_108 rfl (lv_at hl 2 rfl) ?_
          refine va_get (D := D) (ci := 11) (v := .ref (mq 50)) (C := RX11) (T := TX11) (N := 74) hx hb ha inlX11 hown hK hP 0 mw_at0 rfl 50 (by decide) (ha _ kf_X11_118) (fun _ h9 => h9) rfl dX11_measures_109 ?_
          refine lv_iload_n hx hb dX11_measures_112 rfl (lv_at hl 3 rfl) ?_
          have hin_105 : vp_in f 4 := vpi_of (by omega) (by omega)
          refine va_iald hx hb hK hP 32 0 mw_at50 rfl hin_105 dX11_measures_113 ?_
          refine lv_topi (fun x_106 ex_106 => ?_)
          have hE := bd_at ex_106 hE
          have u_x_106 := congrArg Int32.toInt ex_106
          refine lv_bipush (v := 8) hx hb dX11_measures_114 (by decide) ?_
          refine lv_idiv hx hb dX11_measures_116 (by decide) ?_
          refine lv_topi (fun x_107 ex_107 => ?_)
          have hE := bd_at ex_107 hE
          try have t_x_107 := ti_divc (k := 8) ex_107 tk_8 (by decide) (by omega)
          refine lv_isub hx hb dX11_measures_117 ?_
          refine lv_topi (fun x_108 ex_108 => ?_)
          have hE := bd_at ex_108 hE
          refine lv_iload_n hx hb dX11_measures_118 rfl (lv_at hl 1 rfl) ?_
          refine lv_iadd hx hb dX11_measures_119 ?_
          refine lv_topi (fun x_109 ex_109 => ?_)
          have hE := bd_at ex_109 hE
          have hin_110 : vp_in f 4 := vpi_of (by omega) (by omega)
          refine va_iast hx hb hK hP hD hS 32 0 mw_at50 rfl hin_110 dX11_measures_120 (fun H locs hP hD hS => ?_)
          have hP : va_P D vwCl (mw cI cZ h0 mq mi (va_up ma_102 50 (upd (ma_102 50) f.toNatClampNeg x_109))) H := mwP_50 hP
          have hD : va_D A (mw cI cZ h0 mq mi (va_up ma_102 50 (upd (ma_102 50) f.toNatClampNeg x_109))) := mwD_50 hD
          generalize hma_111 : va_up ma_102 50 (upd (ma_102 50) f.toNatClampNeg x_109) = ma_111 at hP hD
          have hI : MB mi ma_111 := by rw [← hma_111]; exact MBa_srtt hI
          have hFA : ∀ k, k ∉ ([69, 51, 50, 52, 49] : List Nat) → ma_111 k = ma0 k := fun k hk => by rw [← hma_111]; exact (va_up_ne _ _ (fun e => hk (by rw [e]; decide))).trans (hFA k hk)
          have hE := bs_at hma_111 hE
          refine lv_goto (tgt := 150) hx hb dX11_measures_121 (by decide) ?_
          refine lv_aload_n hx hb dX11_measures_150 rfl (lv_at hl 2 rfl) ?_
          refine va_get (D := D) (ci := 11) (v := .ref (mq 50)) (C := RX11) (T := TX11) (N := 74) hx hb ha inlX11 hown hK hP 0 mw_at0 rfl 50 (by decide) (ha _ kf_X11_118) (fun _ h9 => h9) rfl dX11_measures_151 ?_
          refine lv_iload_n hx hb dX11_measures_154 rfl (lv_at hl 3 rfl) ?_
          have hin_112 : vp_in f 4 := vpi_of (by omega) (by omega)
          refine va_iald hx hb hK hP 32 0 mw_at50 rfl hin_112 dX11_measures_155 ?_
          refine lv_topi (fun x_113 ex_113 => ?_)
          have hE := bd_at ex_113 hE
          have u_x_113 := congrArg Int32.toInt ex_113
          refine lv_bipush (v := 8) hx hb dX11_measures_156 (by decide) ?_
          refine lv_idiv hx hb dX11_measures_158 (by decide) ?_
          refine lv_topi (fun x_114 ex_114 => ?_)
          have hE := bd_at ex_114 hE
          try have t_x_114 := ti_divc (k := 8) ex_114 tk_8 (by decide) (by omega)
          refine lv_aload_n hx hb dX11_measures_159 rfl (lv_at hl 2 rfl) ?_
          refine va_get (D := D) (ci := 11) (v := .ref (mq 51)) (C := RX11) (T := TX11) (N := 74) hx hb ha inlX11 hown hK hP 0 mw_at0 rfl 51 (by decide) (ha _ kf_X11_121) (fun _ h9 => h9) rfl dX11_measures_160 ?_
          refine lv_iload_n hx hb dX11_measures_163 rfl (lv_at hl 3 rfl) ?_
          have hin_115 : vp_in f 4 := vpi_of (by omega) (by omega)
          refine va_iald hx hb hK hP 33 0 mw_at51 rfl hin_115 dX11_measures_164 ?_
          refine lv_topi (fun x_116 ex_116 => ?_)
          have hE := bd_at ex_116 hE
          have u_x_116 := congrArg Int32.toInt ex_116
          refine lv_iconst (v := 1) hx hb dX11_measures_165 (by decide) ?_
          refine lv_icmp_le (tgt := 178) hx hb dX11_measures_166 (by decide) (fun c_117 => ?_) (fun c_117 => ?_)
          · have t_c_117 := Int32.le_iff_toInt_le.mp c_117
            have hE := hE.trans (if_pos c_117)
            refine lv_iconst (v := 1) hx hb dX11_measures_178 (by decide) ?_
            refine lv_iadd hx hb dX11_measures_179 ?_
            refine lv_topi (fun x_118 ex_118 => ?_)
            have hE := bd_at ex_118 hE
            refine lv_istore (lv' := [(4, .int x_118), (3, .int x_10), (0, .ref h0), (1, .int f), (2, .int a)]) hx hb dX11_measures_180 hl (by decide) rfl (fun ls hl => ?_)
            refine lv_aload_n hx hb dX11_measures_182 rfl (lv_at hl 2 rfl) ?_
            refine va_get (D := D) (ci := 11) (v := .ref (mq 49)) (C := RX11) (T := TX11) (N := 74) hx hb ha inlX11 hown hK hP 0 mw_at0 rfl 49 (by decide) (ha _ kf_X11_115) (fun _ h9 => h9) rfl dX11_measures_183 ?_
            refine lv_iload_n hx hb dX11_measures_186 rfl (lv_at hl 3 rfl) ?_
            refine lv_iload hx hb dX11_measures_187 (lv_at hl 0 rfl) ?_
            refine lv_sipush (v := 200) hx hb dX11_measures_189 (by decide) ?_
            refine lv_icmp_ge (tgt := 201) hx hb dX11_measures_192 (by decide) (fun c_119 => ?_) (fun c_119 => ?_)
            · have t_c_119 := Int32.le_iff_toInt_le.mp c_119
              have hE := hE.trans (if_pos c_119)
              refine lv_iload hx hb dX11_measures_201 (lv_at hl 0 rfl) ?_
              refine lv_ldcw (v := 60000) hx hb hown (ha _ kk_X11_293) dX11_measures_203 ?_
              refine lv_icmp_le (tgt := 215) hx hb dX11_measures_206 (by decide) (fun c_120 => ?_) (fun c_120 => ?_)
              · have t_c_120 := Int32.le_iff_toInt_le.mp c_120
                have hE := hE.trans (if_pos c_120)
                refine lv_iload hx hb dX11_measures_215 (lv_at hl 0 rfl) ?_
                have hin_121 : vp_in f 4 := vpi_of (by omega) (by omega)
                refine va_iast hx hb hK hP hD hS 31 0 mw_at49 rfl hin_121 dX11_measures_217 (fun H locs hP hD hS => ?_)
                have hP : va_P D vwCl (mw cI cZ h0 mq mi (va_up ma_111 49 (upd (ma_111 49) f.toNatClampNeg x_118))) H := mwP_49 hP
                have hD : va_D A (mw cI cZ h0 mq mi (va_up ma_111 49 (upd (ma_111 49) f.toNatClampNeg x_118))) := mwD_49 hD
                generalize hma_122 : va_up ma_111 49 (upd (ma_111 49) f.toNatClampNeg x_118) = ma_122 at hP hD
                have hI : MB mi ma_122 := by rw [← hma_122]; exact MBa_rto hI
                have hFA : ∀ k, k ∉ ([69, 51, 50, 52, 49] : List Nat) → ma_122 k = ma0 k := fun k hk => by rw [← hma_122]; exact (va_up_ne _ _ (fun e => hk (by rw [e]; decide))).trans (hFA k hk)
                have hE := bs_at hma_122 hE
                exact W.vret hx hb hr (fun t ht hW => ⟨⟨(), rfl, trivial, ⟨mi, ma_122, ⟨⟨hI, fun k hk => (hFI k hk).trans (by rw [hmi0]), fun k hk => (hFA k hk).trans (by rw [hma0])⟩, by rw [← hRES, hE], by rw [← hRES, hE]⟩, by rw [ht]; exact hP, va_K.moved hW.alike hK, hD⟩⟩, hS.F ht⟩) hS.2.2 dX11_measures_218
              · have t_c_120 := Int32.lt_iff_toInt_lt.mp (Int32.not_le.mp c_120)
                have hE := hE.trans (if_neg c_120)
                refine lv_ldcw (v := 60000) hx hb hown (ha _ kk_X11_293) dX11_measures_209 ?_
                refine lv_goto (tgt := 217) hx hb dX11_measures_212 (by decide) ?_
                have hin_123 : vp_in f 4 := vpi_of (by omega) (by omega)
                refine va_iast hx hb hK hP hD hS 31 0 mw_at49 rfl hin_123 dX11_measures_217 (fun H locs hP hD hS => ?_)
                have hP : va_P D vwCl (mw cI cZ h0 mq mi (va_up ma_111 49 (upd (ma_111 49) f.toNatClampNeg (60000 : Int32)))) H := mwP_49 hP
                have hD : va_D A (mw cI cZ h0 mq mi (va_up ma_111 49 (upd (ma_111 49) f.toNatClampNeg (60000 : Int32)))) := mwD_49 hD
                generalize hma_124 : va_up ma_111 49 (upd (ma_111 49) f.toNatClampNeg (60000 : Int32)) = ma_124 at hP hD
                have hI : MB mi ma_124 := by rw [← hma_124]; exact MBa_rto hI
                have hFA : ∀ k, k ∉ ([69, 51, 50, 52, 49] : List Nat) → ma_124 k = ma0 k := fun k hk => by rw [← hma_124]; exact (va_up_ne _ _ (fun e => hk (by rw [e]; decide))).trans (hFA k hk)
                have hE := bs_at hma_124 hE
                exact W.vret hx hb hr (fun t ht hW => ⟨⟨(), rfl, trivial, ⟨mi, ma_124, ⟨⟨hI, fun k hk => (hFI k hk).trans (by rw [hmi0]), fun k hk => (hFA k hk).trans (by rw [hma0])⟩, by rw [← hRES, hE], by rw [← hRES, hE]⟩, by rw [ht]; exact hP, va_K.moved hW.alike hK, hD⟩⟩, hS.F ht⟩) hS.2.2 dX11_measures_218
            · have t_c_119 := Int32.lt_iff_toInt_lt.mp (Int32.not_le.mp c_119)
              have hE := hE.trans (if_neg c_119)
              refine lv_sipush (v := 200) hx hb dX11_measures_195 (by decide) ?_
              refine lv_goto (tgt := 217) hx hb dX11_measures_198 (by decide) ?_
              have hin_125 : vp_in f 4 := vpi_of (by omega) (by omega)
              refine va_iast hx hb hK hP hD hS 31 0 mw_at49 rfl hin_125 dX11_measures_217 (fun H locs hP hD hS => ?_)
              have hP : va_P D vwCl (mw cI cZ h0 mq mi (va_up ma_111 49 (upd (ma_111 49) f.toNatClampNeg (200 : Int32)))) H := mwP_49 hP
              have hD : va_D A (mw cI cZ h0 mq mi (va_up ma_111 49 (upd (ma_111 49) f.toNatClampNeg (200 : Int32)))) := mwD_49 hD
              generalize hma_126 : va_up ma_111 49 (upd (ma_111 49) f.toNatClampNeg (200 : Int32)) = ma_126 at hP hD
              have hI : MB mi ma_126 := by rw [← hma_126]; exact MBa_rto hI
              have hFA : ∀ k, k ∉ ([69, 51, 50, 52, 49] : List Nat) → ma_126 k = ma0 k := fun k hk => by rw [← hma_126]; exact (va_up_ne _ _ (fun e => hk (by rw [e]; decide))).trans (hFA k hk)
              have hE := bs_at hma_126 hE
              exact W.vret hx hb hr (fun t ht hW => ⟨⟨(), rfl, trivial, ⟨mi, ma_126, ⟨⟨hI, fun k hk => (hFI k hk).trans (by rw [hmi0]), fun k hk => (hFA k hk).trans (by rw [hma0])⟩, by rw [← hRES, hE], by rw [← hRES, hE]⟩, by rw [ht]; exact hP, va_K.moved hW.alike hK, hD⟩⟩, hS.F ht⟩) hS.2.2 dX11_measures_218
          · have t_c_117 := Int32.lt_iff_toInt_lt.mp (Int32.not_le.mp c_117)
            have hE := hE.trans (if_neg c_117)
            refine lv_aload_n hx hb dX11_measures_169 rfl (lv_at hl 2 rfl) ?_
            refine va_get (D := D) (ci := 11) (v := .ref (mq 51)) (C := RX11) (T := TX11) (N := 74) hx hb ha inlX11 hown hK hP 0 mw_at0 rfl 51 (by decide) (ha _ kf_X11_121) (fun _ h9 => h9) rfl dX11_measures_170 ?_
            refine lv_iload_n hx hb dX11_measures_173 rfl (lv_at hl 3 rfl) ?_
            have hin_127 : vp_in f 4 := vpi_of (by omega) (by omega)
            refine va_iald hx hb hK hP 33 0 mw_at51 rfl hin_127 dX11_measures_174 ?_
            refine lv_topi (fun x_128 ex_128 => ?_)
            have hE := bd_at ex_128 hE
            have u_x_128 := congrArg Int32.toInt ex_128
            refine lv_goto (tgt := 179) hx hb dX11_measures_175 (by decide) ?_
            refine lv_iadd hx hb dX11_measures_179 ?_
            refine lv_topi (fun x_129 ex_129 => ?_)
            have hE := bd_at ex_129 hE
            refine lv_istore (lv' := [(4, .int x_129), (3, .int x_10), (0, .ref h0), (1, .int f), (2, .int a)]) hx hb dX11_measures_180 hl (by decide) rfl (fun ls hl => ?_)
            refine lv_aload_n hx hb dX11_measures_182 rfl (lv_at hl 2 rfl) ?_
            refine va_get (D := D) (ci := 11) (v := .ref (mq 49)) (C := RX11) (T := TX11) (N := 74) hx hb ha inlX11 hown hK hP 0 mw_at0 rfl 49 (by decide) (ha _ kf_X11_115) (fun _ h9 => h9) rfl dX11_measures_183 ?_
            refine lv_iload_n hx hb dX11_measures_186 rfl (lv_at hl 3 rfl) ?_
            refine lv_iload hx hb dX11_measures_187 (lv_at hl 0 rfl) ?_
            refine lv_sipush (v := 200) hx hb dX11_measures_189 (by decide) ?_
            refine lv_icmp_ge (tgt := 201) hx hb dX11_measures_192 (by decide) (fun c_130 => ?_) (fun c_130 => ?_)
            · have t_c_130 := Int32.le_iff_toInt_le.mp c_130
              have hE := hE.trans (if_pos c_130)
              refine lv_iload hx hb dX11_measures_201 (lv_at hl 0 rfl) ?_
              refine lv_ldcw (v := 60000) hx hb hown (ha _ kk_X11_293) dX11_measures_203 ?_
              refine lv_icmp_le (tgt := 215) hx hb dX11_measures_206 (by decide) (fun c_131 => ?_) (fun c_131 => ?_)
              · have t_c_131 := Int32.le_iff_toInt_le.mp c_131
                have hE := hE.trans (if_pos c_131)
                refine lv_iload hx hb dX11_measures_215 (lv_at hl 0 rfl) ?_
                have hin_132 : vp_in f 4 := vpi_of (by omega) (by omega)
                refine va_iast hx hb hK hP hD hS 31 0 mw_at49 rfl hin_132 dX11_measures_217 (fun H locs hP hD hS => ?_)
                have hP : va_P D vwCl (mw cI cZ h0 mq mi (va_up ma_111 49 (upd (ma_111 49) f.toNatClampNeg x_129))) H := mwP_49 hP
                have hD : va_D A (mw cI cZ h0 mq mi (va_up ma_111 49 (upd (ma_111 49) f.toNatClampNeg x_129))) := mwD_49 hD
                generalize hma_133 : va_up ma_111 49 (upd (ma_111 49) f.toNatClampNeg x_129) = ma_133 at hP hD
                have hI : MB mi ma_133 := by rw [← hma_133]; exact MBa_rto hI
                have hFA : ∀ k, k ∉ ([69, 51, 50, 52, 49] : List Nat) → ma_133 k = ma0 k := fun k hk => by rw [← hma_133]; exact (va_up_ne _ _ (fun e => hk (by rw [e]; decide))).trans (hFA k hk)
                have hE := bs_at hma_133 hE
                exact W.vret hx hb hr (fun t ht hW => ⟨⟨(), rfl, trivial, ⟨mi, ma_133, ⟨⟨hI, fun k hk => (hFI k hk).trans (by rw [hmi0]), fun k hk => (hFA k hk).trans (by rw [hma0])⟩, by rw [← hRES, hE], by rw [← hRES, hE]⟩, by rw [ht]; exact hP, va_K.moved hW.alike hK, hD⟩⟩, hS.F ht⟩) hS.2.2 dX11_measures_218
              · have t_c_131 := Int32.lt_iff_toInt_lt.mp (Int32.not_le.mp c_131)
                have hE := hE.trans (if_neg c_131)
                refine lv_ldcw (v := 60000) hx hb hown (ha _ kk_X11_293) dX11_measures_209 ?_
                refine lv_goto (tgt := 217) hx hb dX11_measures_212 (by decide) ?_
                have hin_134 : vp_in f 4 := vpi_of (by omega) (by omega)
                refine va_iast hx hb hK hP hD hS 31 0 mw_at49 rfl hin_134 dX11_measures_217 (fun H locs hP hD hS => ?_)
                have hP : va_P D vwCl (mw cI cZ h0 mq mi (va_up ma_111 49 (upd (ma_111 49) f.toNatClampNeg (60000 : Int32)))) H := mwP_49 hP
                have hD : va_D A (mw cI cZ h0 mq mi (va_up ma_111 49 (upd (ma_111 49) f.toNatClampNeg (60000 : Int32)))) := mwD_49 hD
                generalize hma_135 : va_up ma_111 49 (upd (ma_111 49) f.toNatClampNeg (60000 : Int32)) = ma_135 at hP hD
                have hI : MB mi ma_135 := by rw [← hma_135]; exact MBa_rto hI
                have hFA : ∀ k, k ∉ ([69, 51, 50, 52, 49] : List Nat) → ma_135 k = ma0 k := fun k hk => by rw [← hma_135]; exact (va_up_ne _ _ (fun e => hk (by rw [e]; decide))).trans (hFA k hk)
                have hE := bs_at hma_135 hE
                exact W.vret hx hb hr (fun t ht hW => ⟨⟨(), rfl, trivial, ⟨mi, ma_135, ⟨⟨hI, fun k hk => (hFI k hk).trans (by rw [hmi0]), fun k hk => (hFA k hk).trans (by rw [hma0])⟩, by rw [← hRES, hE], by rw [← hRES, hE]⟩, by rw [ht]; exact hP, va_K.moved hW.alike hK, hD⟩⟩, hS.F ht⟩) hS.2.2 dX11_measures_218
            · have t_c_130 := Int32.lt_iff_toInt_lt.mp (Int32.not_le.mp c_130)
              have hE := hE.trans (if_neg c_130)
              refine lv_sipush (v := 200) hx hb dX11_measures_195 (by decide) ?_
              refine lv_goto (tgt := 217) hx hb dX11_measures_198 (by decide) ?_
              have hin_136 : vp_in f 4 := vpi_of (by omega) (by omega)
              refine va_iast hx hb hK hP hD hS 31 0 mw_at49 rfl hin_136 dX11_measures_217 (fun H locs hP hD hS => ?_)
              have hP : va_P D vwCl (mw cI cZ h0 mq mi (va_up ma_111 49 (upd (ma_111 49) f.toNatClampNeg (200 : Int32)))) H := mwP_49 hP
              have hD : va_D A (mw cI cZ h0 mq mi (va_up ma_111 49 (upd (ma_111 49) f.toNatClampNeg (200 : Int32)))) := mwD_49 hD
              generalize hma_137 : va_up ma_111 49 (upd (ma_111 49) f.toNatClampNeg (200 : Int32)) = ma_137 at hP hD
              have hI : MB mi ma_137 := by rw [← hma_137]; exact MBa_rto hI
              have hFA : ∀ k, k ∉ ([69, 51, 50, 52, 49] : List Nat) → ma_137 k = ma0 k := fun k hk => by rw [← hma_137]; exact (va_up_ne _ _ (fun e => hk (by rw [e]; decide))).trans (hFA k hk)
              have hE := bs_at hma_137 hE
              exact W.vret hx hb hr (fun t ht hW => ⟨⟨(), rfl, trivial, ⟨mi, ma_137, ⟨⟨hI, fun k hk => (hFI k hk).trans (by rw [hmi0]), fun k hk => (hFA k hk).trans (by rw [hma0])⟩, by rw [← hRES, hE], by rw [← hRES, hE]⟩, by rw [ht]; exact hP, va_K.moved hW.alike hK, hD⟩⟩, hS.F ht⟩) hS.2.2 dX11_measures_218
    · have t_c_6 := Int32.le_iff_toInt_le.mp (Int32.not_lt.mp c_6)
      have hE := hE.trans (if_neg c_6)
      exact W.vret hx hb hr (fun t ht hW => ⟨⟨(), rfl, trivial, ⟨mi, ma, ⟨⟨hI, fun k hk => (hFI k hk).trans (by rw [hmi0]), fun k hk => (hFA k hk).trans (by rw [hma0])⟩, by rw [← hRES, hE], by rw [← hRES, hE]⟩, by rw [ht]; exact hP, va_K.moved hW.alike hK, hD⟩⟩, hS.F ht⟩) hS.2.2 dX11_measures_20

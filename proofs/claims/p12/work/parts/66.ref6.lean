set_option maxRecDepth 100000 in
noncomputable def x_due_90 (f : Int32) : Nat → (Nat → Int32) → (Nat → Nat → Int32) → Int32 → (Option XT)
  | 0, mi, ma, _ => none
  | fu + 1, mi, ma, i2 => (if (200 : Int32) ≤ i2 then bd (va_up ma 61 (upd (ma 61) f.toNatClampNeg ((-1) : Int32))) (fun a1 => some (mi, a1, 0)) else bd ((200 : Int32) * f) (fun v2 => bd (v2 + i2) (fun v3 => bd (va_up ma 71 (upd (ma 71) v3.toNatClampNeg (vp_nar .boolean (0 : Int32)))) (fun a4 => bd (i2 + 1) (fun v5 => x_due_90 f fu mi a4 v5)))))
set_option maxRecDepth 100000 in
noncomputable def x_due (f : Int32) (mi : Nat → Int32) (ma : Nat → Nat → Int32) : (Option XT) := ax (MB mi ma ∧ (0 ≤ f.toInt ∧ f.toInt < (mi 32).toInt)) (bd (va_up ma 69 (upd (ma 69) f.toNatClampNeg ((-1) : Int32))) (fun a6 => bd (a6 45 f.toNatClampNeg) (fun v7 => bd (a6 44 f.toNatClampNeg) (fun v8 => (if v7 ≤ v8 then bd (va_up a6 61 (upd (a6 61) f.toNatClampNeg ((-1) : Int32))) (fun a9 => bd (a9 60 f.toNatClampNeg) (fun v10 => (if (0 : Int32) < v10 then some (mi, a9, 0) else bd (a9 45 f.toNatClampNeg) (fun v11 => bd (a9 43 f.toNatClampNeg) (fun v12 => (if v11 < v12 then bd (a9 62 f.toNatClampNeg) (fun v13 => bd (v13 + (1 : Int32)) (fun v14 => bd (va_up a9 62 (upd (a9 62) f.toNatClampNeg v14)) (fun a15 => bd (a15 45 f.toNatClampNeg) (fun v16 => bc (x_puts f v16 (1 : Int32) mi a15) (fun m17 a18 _ => bd (a18 45 f.toNatClampNeg) (fun v20 => bd (v20 + (1 : Int32)) (fun v21 => bd (a18 46 f.toNatClampNeg) (fun v22 => (if v21 ≤ v22 then bd (a18 46 f.toNatClampNeg) (fun v23 => bd (va_up a18 46 (upd (a18 46) f.toNatClampNeg v23)) (fun a24 => bc (x_doubles f m17 a24) (fun m25 a26 _ => bd (m25 4) (fun v28 => bd (a26 49 f.toNatClampNeg) (fun v29 => bd (v28 + v29) (fun v30 => bd (va_up a26 61 (upd (a26 61) f.toNatClampNeg v30)) (fun a31 => some (m25, a31, 0)))))))) else bd (a18 45 f.toNatClampNeg) (fun v32 => bd (v32 + (1 : Int32)) (fun v33 => bd (va_up a18 46 (upd (a18 46) f.toNatClampNeg v33)) (fun a34 => bc (x_doubles f m17 a34) (fun m35 a36 _ => bd (m35 4) (fun v38 => bd (a36 49 f.toNatClampNeg) (fun v39 => bd (v38 + v39) (fun v40 => bd (va_up a36 61 (upd (a36 61) f.toNatClampNeg v40)) (fun a41 => some (m35, a41, 0)))))))))))))))))) else some (mi, a9, 0))))))) else bd (a6 57 f.toNatClampNeg) (fun v42 => bd (v42 + (1 : Int32)) (fun v43 => bd (va_up a6 57 (upd (a6 57) f.toNatClampNeg v43)) (fun a44 => bc (x_loses f mi a44) (fun m45 a46 _ => bc (x_opens f (1024 : Int32) m45 a46) (fun m48 a49 _ => bc (x_doubles f m48 a49) (fun m51 a52 _ => bd (va_up a52 54 (upd (a52 54) f.toNatClampNeg (vp_nar .boolean (0 : Int32)))) (fun a54 => bd (va_up a54 53 (upd (a54 53) f.toNatClampNeg (0 : Int32))) (fun a55 => bd (a55 46 f.toNatClampNeg) (fun v56 => bd (va_up a55 55 (upd (a55 55) f.toNatClampNeg v56)) (fun a57 => bd (a57 44 f.toNatClampNeg) (fun v58 => bd (va_up a57 45 (upd (a57 45) f.toNatClampNeg v58)) (fun a59 => x_due_90 f 201 m51 a59 (0 : Int32))))))))))))))))))
set_option maxHeartbeats 4000000 in
set_option maxRecDepth 100000 in
theorem m_due (l : Launch) (D : va_G) (cI cJ cZ cO : ClassId) (sz : Nat) (h0 : Nat) (mq : Nat → Nat) (mi : Nat → Int32) (ma : Nat → Nat → Int32) (ph : Nat) (cl : Int) (f : Int32) (hI : MB mi ma) (hf0 : 0 ≤ f.toInt) (hf4 : f.toInt < 4) (hff : f.toInt < (mi 32).toInt) : Met l yX11_due (wa yX11_due cX11_due 3 none) ({ frames := 1, cells := 0, slots := 0, locals := 25 }) (va_Pc [.ref h0, .int f] (pw_s D cI cJ cZ cO sz (mw cI cZ h0 mq mi ma))) (va_Qv (fun (_ : Unit) => True) (fun (_ : Unit) (t : State) => ∃ (mi2 : Nat → Int32) (ma2 : Nat → Nat → Int32), ((MB mi2 ma2 ∧ (∀ k, k ∉ ([26, 30, 28, 27, 6, 5] : List Nat) → mi2 k = mi k) ∧ (∀ k, k ∉ ([69, 57, 63, 48, 67, 47, 68, 49, 54, 53, 55, 45, 71, 61, 62, 31, 7, 8, 9, 46] : List Nat) → ma2 k = ma k)) ∧ ∃ rr : Int32, (x_due f mi ma) = some (mi2, ma2, rr)) ∧ pw_t D cI cJ cZ cO (va_A (mw cI cZ h0 mq mi ma) sz) (mw cI cZ h0 mq mi2 ma2) t) (va_A (mw cI cZ h0 mq mi ma) sz)) 0 0 (va_A (mw cI cZ h0 mq mi ma) sz) := by
  refine Met.ofW (cc := cX11_due) (maxL := 3) (ret := none) (by decide) rfl ?_
  intro p e s m args below meth c s₁ B hml hv
  obtain ⟨rfl, hsz, hP, hK, hD0, hN⟩ := hv
  have hx := B.exec
  have hb := B.bytes
  have hr := B.returns
  have hts := atoms_spec (ws := (wa yX11_due cX11_due 3 none)) B.pre
  have ha : ∀ w ∈ wsL_law, w.before _ s = true := fun w h => hts w (List.mem_cons_of_mem _ h)
  have hown : s.vm.findClass RX11 = some m.cls := findClass_of_methodNamed B.named
  have hlocks := B.notSynchronized
  subst hsz
  have hD := hD0.self (sz := s.heap.size)
  generalize hAe : va_A (mw cI cZ h0 mq mi ma) s.heap.size = A at hD ⊢
  have hA : ∀ q : Nat, s.heap.size ≤ q → A q := fun q h => by rw [← hAe]; exact Or.inr h
  have hS : va_S A s.heap s.heap [] := va_S.rf
  have hP : va_P D vwCl (mw cI cZ h0 mq mi ma) s.heap := hP
  have hl := lv_entry ([.ref h0, .int f]) (n := 3) (Nat.le_of_ble_eq_true rfl)
  rw [lg_entry_eq]
  generalize (lg_sl ([.ref h0, .int f]) ++ List.replicate (3 - (lg_sl ([.ref h0, .int f])).length) Slot.unset).toArray = ls at hl ⊢
  have hl : lv_has ls 3 [(0, .ref h0), (1, .int f)] := hl
  have kc_m1 := tk_m1
  have kc_0 := tk_0
  have kc_1 := tk_1
  have kc_200 := tk_200
  have kc_1024 := tk_1024
  obtain ⟨mi0, hmi0⟩ : ∃ y, y = mi := ⟨_, rfl⟩
  obtain ⟨ma0, hma0⟩ : ∃ y, y = ma := ⟨_, rfl⟩
  have hFI : ∀ k, k ∉ ([26, 30, 28, 27, 6, 5] : List Nat) → mi k = mi0 k := fun k _ => by rw [hmi0]
  have hFA : ∀ k, k ∉ ([69, 57, 63, 48, 67, 47, 68, 49, 54, 53, 55, 45, 71, 61, 62, 31, 7, 8, 9, 46] : List Nat) → ma k = ma0 k := fun k _ => by rw [hma0]
  obtain ⟨QP, hQP⟩ : ∃ y : State → Prop, y = (MQ below (va_Qv (fun (_ : Unit) => True) (fun (_ : Unit) (t : State) => ∃ (mi2 : Nat → Int32) (ma2 : Nat → Nat → Int32), ((MB mi2 ma2 ∧ (∀ k, k ∉ ([26, 30, 28, 27, 6, 5] : List Nat) → mi2 k = mi k) ∧ (∀ k, k ∉ ([69, 57, 63, 48, 67, 47, 68, 49, 54, 53, 55, 45, 71, 61, 62, 31, 7, 8, 9, 46] : List Nat) → ma2 k = ma k)) ∧ ∃ rr : Int32, (x_due f mi ma) = some (mi2, ma2, rr)) ∧ pw_t D cI cJ cZ cO A (mw cI cZ h0 mq mi2 ma2) t) A) #[(.ref h0 : Value), (.int f : Value)] s 0 0 A) := ⟨_, rfl⟩
  obtain ⟨RES, hRES⟩ : ∃ y, y = (x_due f mi ma) := ⟨_, rfl⟩
  have hfN : f.toNatClampNeg < 4 := in_lt (vpi_of (n := 4) hf0 (by omega))
  have hle := MB_le2n hI f.toNatClampNeg hfN
  have hlh := MB_le2h hI f.toNatClampNeg hfN
  have y44 : (ma0 44 f.toNatClampNeg).toInt = (ma 44 f.toNatClampNeg).toInt := by rw [hma0]
  have y45 := MB_nxt hI f.toNatClampNeg hfN
  have y44b := MB_una hI f.toNatClampNeg hfN
  have J_90 : ∀ (n_90 : Nat), ∀ (mi : Nat → Int32) (ma : Nat → Nat → Int32) (i2 : Int32) (H : Heap) (locs : List Loc), va_P D vwCl (mw cI cZ h0 mq mi ma) H → va_D A (mw cI cZ h0 mq mi ma) → va_S A s.heap H locs → MB mi ma → (∀ k, k ∉ ([26, 30, 28, 27, 6, 5] : List Nat) → mi k = mi0 k) → (∀ k, k ∉ ([69, 57, 63, 48, 67, 47, 68, 49, 54, 53, 55, 45, 71, 61, 62, 31, 7, 8, 9, 46] : List Nat) → ma k = ma0 k) → RES = x_due_90 f n_90 mi ma i2 → 0 ≤ i2.toInt → ∀ (ls : Array Slot), lv_has ls 3 [(0, .ref h0), (1, .int f), (2, .int i2)] → ((200 - i2.toInt).toNat) < n_90 → W p l e ({ frames := 1, cells := 0, slots := 0, locals := 25 }) s m #[(.ref h0 : Value), (.int f : Value)] below meth c H locs 0 0 QP (F0 m 90 ls []) := by
    intro n_90
    induction n_90 with
    | zero => intros; exact absurd ‹_ < 0› (Nat.not_lt_zero _)
    | succ n_90 ih_90 =>
      intro mi ma i2 H locs hP hD hS hI hFI hFA hE hv ls hl hm
      have hfN : f.toNatClampNeg < 4 := in_lt (vpi_of (n := 4) hf0 (by omega))
      have hle := MB_le2n hI f.toNatClampNeg hfN
      have hlh := MB_le2h hI f.toNatClampNeg hfN
      rw [x_due_90] at hE
      refine lv_iload_n hx hb dX11_due_90 rfl (lv_at hl 2 rfl) ?_
      refine lv_sipush (v := 200) hx hb dX11_due_91 (by decide) ?_
      refine lv_icmp_ge (tgt := 116) hx hb dX11_due_94 (by decide) (fun c_1 => ?_) (fun c_1 => ?_)
      · have t_c_1 := Int32.le_iff_toInt_le.mp c_1
        have hE := hE.trans (if_pos c_1)
        refine lv_aload_n hx hb dX11_due_116 rfl (lv_at hl 0 rfl) ?_
        refine va_get (D := D) (ci := 11) (v := .ref (mq 61)) (C := RX11) (T := TX11) (N := 74) hx hb ha inlX11 hown hK hP 0 mw_at0 rfl 61 (by decide) (ha _ kf_X11_151) (fun _ h9 => h9) rfl dX11_due_117 ?_
        refine lv_iload_n hx hb dX11_due_120 rfl (lv_at hl 1 rfl) ?_
        refine lv_iconst (v := (-1)) hx hb dX11_due_121 (by decide) ?_
        have hin_2 : vp_in f 4 := vpi_of (by omega) (by omega)
        refine va_iast hx hb hK hP hD hS 43 0 mw_at61 rfl hin_2 dX11_due_122 (fun H locs hP hD hS => ?_)
        have hP : va_P D vwCl (mw cI cZ h0 mq mi (va_up ma 61 (upd (ma 61) f.toNatClampNeg ((-1) : Int32)))) H := mwP_61 hP
        have hD : va_D A (mw cI cZ h0 mq mi (va_up ma 61 (upd (ma 61) f.toNatClampNeg ((-1) : Int32)))) := mwD_61 hD
        generalize hma_3 : va_up ma 61 (upd (ma 61) f.toNatClampNeg ((-1) : Int32)) = ma_3 at hP hD
        have hI : MB mi ma_3 := by rw [← hma_3]; exact MBa_timer hI
        have hFA : ∀ k, k ∉ ([69, 57, 63, 48, 67, 47, 68, 49, 54, 53, 55, 45, 71, 61, 62, 31, 7, 8, 9, 46] : List Nat) → ma_3 k = ma0 k := fun k hk => by rw [← hma_3]; exact (va_up_ne _ _ (fun e => hk (by rw [e]; decide))).trans (hFA k hk)
        have hE := bs_at hma_3 hE
        rw [hQP]
        exact W.vret hx hb hr (fun t ht hW => ⟨⟨(), rfl, trivial, ⟨mi, ma_3, ⟨⟨hI, fun k hk => (hFI k hk).trans (by rw [hmi0]), fun k hk => (hFA k hk).trans (by rw [hma0])⟩, _, hRES.symm.trans hE⟩, by rw [ht]; exact hP, va_K.moved hW.alike hK, hD⟩⟩, hS.F ht⟩) hS.2.2 dX11_due_123
      · have t_c_1 := Int32.lt_iff_toInt_lt.mp (Int32.not_le.mp c_1)
        have hE := hE.trans (if_neg c_1)
        refine lv_aload_n hx hb dX11_due_97 rfl (lv_at hl 0 rfl) ?_
        refine va_get (D := D) (ci := 11) (v := .ref (mq 71)) (C := RX11) (T := TX11) (N := 74) hx hb ha inlX11 hown hK hP 0 mw_at0 rfl 71 (by decide) (ha _ kf_X11_181) (fun _ h9 => h9) rfl dX11_due_98 ?_
        refine lv_sipush (v := 200) hx hb dX11_due_101 (by decide) ?_
        refine lv_iload_n hx hb dX11_due_104 rfl (lv_at hl 1 rfl) ?_
        refine lv_imul hx hb dX11_due_105 ?_
        refine lv_topi (fun x_4 ex_4 => ?_)
        have hE := bd_at ex_4 hE
        try have t_x_4 := ti_mulc (k := 200) ex_4 tk_200 (by omega) (by omega)
        refine lv_iload_n hx hb dX11_due_106 rfl (lv_at hl 2 rfl) ?_
        refine lv_iadd hx hb dX11_due_107 ?_
        refine lv_topi (fun x_5 ex_5 => ?_)
        have hE := bd_at ex_5 hE
        try have t_x_5 := ti_add ex_5 (by omega) (by omega)
        refine lv_iconst (v := 0) hx hb dX11_due_108 (by decide) ?_
        have hin_6 : vp_in x_5 800 := vpi_of (by omega) (by omega)
        refine va_zast hx hb hK hP hD hS 53 2 mw_at71 rfl hin_6 dX11_due_109 (fun H locs hP hD hS => ?_)
        have hP : va_P D vwCl (mw cI cZ h0 mq mi (va_up ma 71 (upd (ma 71) x_5.toNatClampNeg (vp_nar .boolean (0 : Int32))))) H := mwP_71 hP
        have hD : va_D A (mw cI cZ h0 mq mi (va_up ma 71 (upd (ma 71) x_5.toNatClampNeg (vp_nar .boolean (0 : Int32))))) := mwD_71 hD
        generalize hma_7 : va_up ma 71 (upd (ma 71) x_5.toNatClampNeg (vp_nar .boolean (0 : Int32))) = ma_7 at hP hD
        have hI : MB mi ma_7 := by rw [← hma_7]; exact MBa_board hI
        have hFA : ∀ k, k ∉ ([69, 57, 63, 48, 67, 47, 68, 49, 54, 53, 55, 45, 71, 61, 62, 31, 7, 8, 9, 46] : List Nat) → ma_7 k = ma0 k := fun k hk => by rw [← hma_7]; exact (va_up_ne _ _ (fun e => hk (by rw [e]; decide))).trans (hFA k hk)
        have hE := bs_at hma_7 hE
        obtain ⟨x_8, ex_8⟩ : ∃ y : Int32, y = i2 + 1 := ⟨_, rfl⟩
        have hE := bd_at ex_8 hE
        refine lv_iinc (v := x_8) (lv' := [(2, .int x_8), (0, .ref h0), (1, .int f)]) hx hb dX11_due_110 hl (k := 2) rfl (by rw [ex_8]; rfl) (by decide) rfl (fun ls hl => ?_)
        try have t_x_8 := ti_add ex_8 (by omega) (by omega)
        refine lv_goto (tgt := 90) hx hb dX11_due_113 (by decide) ?_
        exact ih_90 mi ma_7 x_8 _ _ hP hD hS hI hFI hFA hE (by omega) _ (lv_sub hl [1, 2, 0] rfl) (by omega)
  -- from the entry
  rw [hQP] at J_90
  have hE := hRES
  unfold x_due at hE
  have hE := ax_at (⟨hI, hf0, hff⟩) hE
  refine lv_aload_n hx hb dX11_due_0 rfl (lv_at hl 0 rfl) ?_
  refine va_get (D := D) (ci := 11) (v := .ref (mq 69)) (C := RX11) (T := TX11) (N := 74) hx hb ha inlX11 hown hK hP 0 mw_at0 rfl 69 (by decide) (ha _ kf_X11_175) (fun _ h9 => h9) rfl dX11_due_1 ?_
  refine lv_iload_n hx hb dX11_due_4 rfl (lv_at hl 1 rfl) ?_
  refine lv_iconst (v := (-1)) hx hb dX11_due_5 (by decide) ?_
  have hin_9 : vp_in f 4 := vpi_of (by omega) (by omega)
  refine va_iast hx hb hK hP hD hS 51 0 mw_at69 rfl hin_9 dX11_due_6 (fun H locs hP hD hS => ?_)
  have hP : va_P D vwCl (mw cI cZ h0 mq mi (va_up ma 69 (upd (ma 69) f.toNatClampNeg ((-1) : Int32)))) H := mwP_69 hP
  have hD : va_D A (mw cI cZ h0 mq mi (va_up ma 69 (upd (ma 69) f.toNatClampNeg ((-1) : Int32)))) := mwD_69 hD
  generalize hma_10 : va_up ma 69 (upd (ma 69) f.toNatClampNeg ((-1) : Int32)) = ma_10 at hP hD
  have hI : MB mi ma_10 := by rw [← hma_10]; exact MBa_measured hI
  have hFA : ∀ k, k ∉ ([69, 57, 63, 48, 67, 47, 68, 49, 54, 53, 55, 45, 71, 61, 62, 31, 7, 8, 9, 46] : List Nat) → ma_10 k = ma0 k := fun k hk => by rw [← hma_10]; exact (va_up_ne _ _ (fun e => hk (by rw [e]; decide))).trans (hFA k hk)
  have hE := bs_at hma_10 hE
  refine lv_aload_n hx hb dX11_due_7 rfl (lv_at hl 0 rfl) ?_
  refine va_get (D := D) (ci := 11) (v := .ref (mq 45)) (C := RX11) (T := TX11) (N := 74) hx hb ha inlX11 hown hK hP 0 mw_at0 rfl 45 (by decide) (ha _ kf_X11_103) (fun _ h9 => h9) rfl dX11_due_8 ?_
  refine lv_iload_n hx hb dX11_due_11 rfl (lv_at hl 1 rfl) ?_
  have hin_11 : vp_in f 4 := vpi_of (by omega) (by omega)
  refine va_iald hx hb hK hP 27 0 mw_at45 rfl hin_11 dX11_due_12 ?_
  refine lv_topi (fun x_12 ex_12 => ?_)
  have hE := bd_at ex_12 hE
  have u_x_12 := congrArg Int32.toInt ex_12
  have r_x_12 := rg_ld (MB_nxt hI) hin_11 ex_12
  refine lv_aload_n hx hb dX11_due_13 rfl (lv_at hl 0 rfl) ?_
  refine va_get (D := D) (ci := 11) (v := .ref (mq 44)) (C := RX11) (T := TX11) (N := 74) hx hb ha inlX11 hown hK hP 0 mw_at0 rfl 44 (by decide) (ha _ kf_X11_100) (fun _ h9 => h9) rfl dX11_due_14 ?_
  refine lv_iload_n hx hb dX11_due_17 rfl (lv_at hl 1 rfl) ?_
  have hin_13 : vp_in f 4 := vpi_of (by omega) (by omega)
  refine va_iald hx hb hK hP 26 0 mw_at44 rfl hin_13 dX11_due_18 ?_
  refine lv_topi (fun x_14 ex_14 => ?_)
  have hE := bd_at ex_14 hE
  have u_x_14 := congrArg Int32.toInt ex_14
  have r_x_14 := rg_ld (MB_una hI) hin_13 ex_14
  have z_x_14 := congrArg Int32.toInt (congrFun (hFA 44 (by decide)) f.toNatClampNeg)
  refine lv_icmp_le (tgt := 124) hx hb dX11_due_19 (by decide) (fun c_15 => ?_) (fun c_15 => ?_)
  · have t_c_15 := Int32.le_iff_toInt_le.mp c_15
    have hE := hE.trans (if_pos c_15)
    refine lv_aload_n hx hb dX11_due_124 rfl (lv_at hl 0 rfl) ?_
    refine va_get (D := D) (ci := 11) (v := .ref (mq 61)) (C := RX11) (T := TX11) (N := 74) hx hb ha inlX11 hown hK hP 0 mw_at0 rfl 61 (by decide) (ha _ kf_X11_151) (fun _ h9 => h9) rfl dX11_due_125 ?_
    refine lv_iload_n hx hb dX11_due_128 rfl (lv_at hl 1 rfl) ?_
    refine lv_iconst (v := (-1)) hx hb dX11_due_129 (by decide) ?_
    have hin_16 : vp_in f 4 := vpi_of (by omega) (by omega)
    refine va_iast hx hb hK hP hD hS 43 0 mw_at61 rfl hin_16 dX11_due_130 (fun H locs hP hD hS => ?_)
    have hP : va_P D vwCl (mw cI cZ h0 mq mi (va_up ma_10 61 (upd (ma_10 61) f.toNatClampNeg ((-1) : Int32)))) H := mwP_61 hP
    have hD : va_D A (mw cI cZ h0 mq mi (va_up ma_10 61 (upd (ma_10 61) f.toNatClampNeg ((-1) : Int32)))) := mwD_61 hD
    generalize hma_17 : va_up ma_10 61 (upd (ma_10 61) f.toNatClampNeg ((-1) : Int32)) = ma_17 at hP hD
    have hI : MB mi ma_17 := by rw [← hma_17]; exact MBa_timer hI
    have hFA : ∀ k, k ∉ ([69, 57, 63, 48, 67, 47, 68, 49, 54, 53, 55, 45, 71, 61, 62, 31, 7, 8, 9, 46] : List Nat) → ma_17 k = ma0 k := fun k hk => by rw [← hma_17]; exact (va_up_ne _ _ (fun e => hk (by rw [e]; decide))).trans (hFA k hk)
    have hE := bs_at hma_17 hE
    refine lv_aload_n hx hb dX11_due_131 rfl (lv_at hl 0 rfl) ?_
    refine va_get (D := D) (ci := 11) (v := .ref (mq 60)) (C := RX11) (T := TX11) (N := 74) hx hb ha inlX11 hown hK hP 0 mw_at0 rfl 60 (by decide) (ha _ kf_X11_148) (fun _ h9 => h9) rfl dX11_due_132 ?_
    refine lv_iload_n hx hb dX11_due_135 rfl (lv_at hl 1 rfl) ?_
    have hin_18 : vp_in f 4 := vpi_of (by omega) (by omega)
    refine va_iald hx hb hK hP 42 0 mw_at60 rfl hin_18 dX11_due_136 ?_
    refine lv_topi (fun x_19 ex_19 => ?_)
    have hE := bd_at ex_19 hE
    have u_x_19 := congrArg Int32.toInt ex_19
    have r_x_19 := rg_ld (MB_w hI) hin_18 ex_19
    refine lv_if_gt (tgt := 155) hx hb dX11_due_137 (by decide) (fun c_20 => ?_) (fun c_20 => ?_)
    · have t_c_20 := Int32.lt_iff_toInt_lt.mp c_20
      have hE := hE.trans (if_pos c_20)
      exact W.vret hx hb hr (fun t ht hW => ⟨⟨(), rfl, trivial, ⟨mi, ma_17, ⟨⟨hI, fun k hk => (hFI k hk).trans (by rw [hmi0]), fun k hk => (hFA k hk).trans (by rw [hma0])⟩, _, hRES.symm.trans hE⟩, by rw [ht]; exact hP, va_K.moved hW.alike hK, hD⟩⟩, hS.F ht⟩) hS.2.2 dX11_due_155
    · have t_c_20 := Int32.le_iff_toInt_le.mp (Int32.not_lt.mp c_20)
      have hE := hE.trans (if_neg c_20)
      refine lv_aload_n hx hb dX11_due_140 rfl (lv_at hl 0 rfl) ?_
      refine va_get (D := D) (ci := 11) (v := .ref (mq 45)) (C := RX11) (T := TX11) (N := 74) hx hb ha inlX11 hown hK hP 0 mw_at0 rfl 45 (by decide) (ha _ kf_X11_103) (fun _ h9 => h9) rfl dX11_due_141 ?_
      refine lv_iload_n hx hb dX11_due_144 rfl (lv_at hl 1 rfl) ?_
      have hin_21 : vp_in f 4 := vpi_of (by omega) (by omega)
      refine va_iald hx hb hK hP 27 0 mw_at45 rfl hin_21 dX11_due_145 ?_
      refine lv_topi (fun x_22 ex_22 => ?_)
      have hE := bd_at ex_22 hE
      have u_x_22 := congrArg Int32.toInt ex_22
      have q_x_22 : x_22.toInt = x_12.toInt := congrArg Int32.toInt (ex_22.trans (((congrFun (congrFun hma_17 45) _).symm).trans (ex_12.symm)))
      have r_x_22 := rg_ld (MB_nxt hI) hin_21 ex_22
      refine lv_aload_n hx hb dX11_due_146 rfl (lv_at hl 0 rfl) ?_
      refine va_get (D := D) (ci := 11) (v := .ref (mq 43)) (C := RX11) (T := TX11) (N := 74) hx hb ha inlX11 hown hK hP 0 mw_at0 rfl 43 (by decide) (ha _ kf_X11_97) (fun _ h9 => h9) rfl dX11_due_147 ?_
      refine lv_iload_n hx hb dX11_due_150 rfl (lv_at hl 1 rfl) ?_
      have hin_23 : vp_in f 4 := vpi_of (by omega) (by omega)
      refine va_iald hx hb hK hP 25 0 mw_at43 rfl hin_23 dX11_due_151 ?_
      refine lv_topi (fun x_24 ex_24 => ?_)
      have hE := bd_at ex_24 hE
      have u_x_24 := congrArg Int32.toInt ex_24
      have r_x_24 := rg_ld (MB_all hI) hin_23 ex_24
      refine lv_icmp_lt (tgt := 156) hx hb dX11_due_152 (by decide) (fun c_25 => ?_) (fun c_25 => ?_)
      · have t_c_25 := Int32.lt_iff_toInt_lt.mp c_25
        have hE := hE.trans (if_pos c_25)
        refine lv_aload_n hx hb dX11_due_156 rfl (lv_at hl 0 rfl) ?_
        refine va_get (D := D) (ci := 11) (v := .ref (mq 62)) (C := RX11) (T := TX11) (N := 74) hx hb ha inlX11 hown hK hP 0 mw_at0 rfl 62 (by decide) (ha _ kf_X11_154) (fun _ h9 => h9) rfl dX11_due_157 ?_
        refine lv_iload_n hx hb dX11_due_160 rfl (lv_at hl 1 rfl) ?_
        refine lv_dup2_11 hx hb dX11_due_161 rfl rfl ?_
        have hin_26 : vp_in f 4 := vpi_of (by omega) (by omega)
        refine va_iald hx hb hK hP 44 0 mw_at62 rfl hin_26 dX11_due_162 ?_
        refine lv_topi (fun x_27 ex_27 => ?_)
        have hE := bd_at ex_27 hE
        have u_x_27 := congrArg Int32.toInt ex_27
        refine lv_iconst (v := 1) hx hb dX11_due_163 (by decide) ?_
        refine lv_iadd hx hb dX11_due_164 ?_
        refine lv_topi (fun x_28 ex_28 => ?_)
        have hE := bd_at ex_28 hE
        have hin_29 : vp_in f 4 := vpi_of (by omega) (by omega)
        refine va_iast hx hb hK hP hD hS 44 0 mw_at62 rfl hin_29 dX11_due_165 (fun H locs hP hD hS => ?_)
        have hP : va_P D vwCl (mw cI cZ h0 mq mi (va_up ma_17 62 (upd (ma_17 62) f.toNatClampNeg x_28))) H := mwP_62 hP
        have hD : va_D A (mw cI cZ h0 mq mi (va_up ma_17 62 (upd (ma_17 62) f.toNatClampNeg x_28))) := mwD_62 hD
        generalize hma_30 : va_up ma_17 62 (upd (ma_17 62) f.toNatClampNeg x_28) = ma_30 at hP hD
        have hI : MB mi ma_30 := by rw [← hma_30]; exact MBa_probes hI
        have hFA : ∀ k, k ∉ ([69, 57, 63, 48, 67, 47, 68, 49, 54, 53, 55, 45, 71, 61, 62, 31, 7, 8, 9, 46] : List Nat) → ma_30 k = ma0 k := fun k hk => by rw [← hma_30]; exact (va_up_ne _ _ (fun e => hk (by rw [e]; decide))).trans (hFA k hk)
        have hE := bs_at hma_30 hE
        refine lv_aload_n hx hb dX11_due_166 rfl (lv_at hl 0 rfl) ?_
        refine lv_iload_n hx hb dX11_due_167 rfl (lv_at hl 1 rfl) ?_
        refine lv_aload_n hx hb dX11_due_168 rfl (lv_at hl 0 rfl) ?_
        refine va_get (D := D) (ci := 11) (v := .ref (mq 45)) (C := RX11) (T := TX11) (N := 74) hx hb ha inlX11 hown hK hP 0 mw_at0 rfl 45 (by decide) (ha _ kf_X11_103) (fun _ h9 => h9) rfl dX11_due_169 ?_
        refine lv_iload_n hx hb dX11_due_172 rfl (lv_at hl 1 rfl) ?_
        have hin_31 : vp_in f 4 := vpi_of (by omega) (by omega)
        refine va_iald hx hb hK hP 27 0 mw_at45 rfl hin_31 dX11_due_173 ?_
        refine lv_topi (fun x_32 ex_32 => ?_)
        have hE := bd_at ex_32 hE
        have u_x_32 := congrArg Int32.toInt ex_32
        have q_x_32 : x_32.toInt = x_22.toInt := congrArg Int32.toInt (ex_32.trans (((congrFun (congrFun hma_30 45) _).symm).trans (ex_22.symm)))
        have r_x_32 := rg_ld (MB_nxt hI) hin_31 ex_32
        refine lv_iconst (v := 1) hx hb dX11_due_174 (by decide) ?_
        have hFc := va_freeW hD hS hA
        refine va_callv (va_runV (As := [.int f, .int x_32, .int 1]) (rest := []) ⟨hx, hb, hml, hown, ha⟩ (m_puts l D cI cJ cZ cO _ h0 mq mi ma_30 ph cl f x_32 1 hI hf0 hf4 (by rw [hFI 32 (by decide), hmi0]; omega) (by omega) (by omega)) (cwV 3 ha (gaV kl_X11_323 km_X11_puts ks_X11_puts kz_X11 kd_X11_puts) rfl rfl rfl (by decide +kernel) ⟨Nat.le_of_ble_eq_true rfl, Nat.le_of_ble_eq_true rfl⟩) ⟨pw_blind, va_recv hK hP (ci := 11) (q0 := 0) rfl rfl, fun U hU hW => ⟨rfl, pw_start hU hW hP hK hD hN⟩⟩ rfl rfl hl.1 rfl (lv_room (Nat.le_of_ble_eq_true rfl)) dX11_due_175 ⟨Nat.le_of_ble_eq_true rfl, Nat.le_of_ble_eq_true rfl⟩) hS (fun q _ h => hFc q h) hFc (fun u t H1 locs ht hvm hw hB hz1 hk1 hS => ?_)
        obtain ⟨mi_34, ma_35, ⟨hf_36, hX1, hX2⟩, hP, hK1, hD1⟩ := hB
        have hE := bc_atv hX1 hX2 hE
        rw [ht] at hP
        have hD := hD1.weaken (fun k q _ h => hFc q.1 h)
        clear hD1
        generalize H1 = H at hP hS ⊢
        refine W.widen (k := 0) (n := 0) (Nat.le_refl _) (Nat.le_refl _) ?_
        have hI := hf_36.1
        have hFI : ∀ k, k ∉ ([26, 30, 28, 27, 6, 5] : List Nat) → mi_34 k = mi0 k := fun k hk => (hf_36.2.1 k (fun h => hk (by revert h; exact sub_of (by decide) k))).trans (hFI k hk)
        have hFA : ∀ k, k ∉ ([69, 57, 63, 48, 67, 47, 68, 49, 54, 53, 55, 45, 71, 61, 62, 31, 7, 8, 9, 46] : List Nat) → ma_35 k = ma0 k := fun k hk => (hf_36.2.2 k (fun h => hk (by revert h; exact sub_of (by decide) k))).trans (hFA k hk)
        refine lv_aload_n hx hb dX11_due_178 rfl (lv_at hl 0 rfl) ?_
        refine va_get (D := D) (ci := 11) (v := .ref (mq 46)) (C := RX11) (T := TX11) (N := 74) hx hb ha inlX11 hown hK hP 0 mw_at0 rfl 46 (by decide) (ha _ kf_X11_106) (fun _ h9 => h9) rfl dX11_due_179 ?_
        refine lv_iload_n hx hb dX11_due_182 rfl (lv_at hl 1 rfl) ?_
        refine lv_aload_n hx hb dX11_due_183 rfl (lv_at hl 0 rfl) ?_
        refine va_get (D := D) (ci := 11) (v := .ref (mq 45)) (C := RX11) (T := TX11) (N := 74) hx hb ha inlX11 hown hK hP 0 mw_at0 rfl 45 (by decide) (ha _ kf_X11_103) (fun _ h9 => h9) rfl dX11_due_184 ?_
        refine lv_iload_n hx hb dX11_due_187 rfl (lv_at hl 1 rfl) ?_
        have hin_37 : vp_in f 4 := vpi_of (by omega) (by omega)
        refine va_iald hx hb hK hP 27 0 mw_at45 rfl hin_37 dX11_due_188 ?_
        refine lv_topi (fun x_38 ex_38 => ?_)
        have hE := bd_at ex_38 hE
        have u_x_38 := congrArg Int32.toInt ex_38
        have q_x_38 : x_38.toInt = x_32.toInt := congrArg Int32.toInt (ex_38.trans ((congrFun (hf_36.2.2 45 (by decide)) _).trans (ex_32.symm)))
        have r_x_38 := rg_ld (MB_nxt hI) hin_37 ex_38
        refine lv_iconst (v := 1) hx hb dX11_due_189 (by decide) ?_
        refine lv_iadd hx hb dX11_due_190 ?_
        refine lv_topi (fun x_39 ex_39 => ?_)
        have hE := bd_at ex_39 hE
        try have t_x_39 := ti_add ex_39 (by omega) (by omega)
        refine lv_aload_n hx hb dX11_due_191 rfl (lv_at hl 0 rfl) ?_
        refine va_get (D := D) (ci := 11) (v := .ref (mq 46)) (C := RX11) (T := TX11) (N := 74) hx hb ha inlX11 hown hK hP 0 mw_at0 rfl 46 (by decide) (ha _ kf_X11_106) (fun _ h9 => h9) rfl dX11_due_192 ?_
        refine lv_iload_n hx hb dX11_due_195 rfl (lv_at hl 1 rfl) ?_
        have hin_40 : vp_in f 4 := vpi_of (by omega) (by omega)
        refine va_iald hx hb hK hP 28 0 mw_at46 rfl hin_40 dX11_due_196 ?_
        refine lv_topi (fun x_41 ex_41 => ?_)
        have hE := bd_at ex_41 hE
        have u_x_41 := congrArg Int32.toInt ex_41
        have r_x_41 := rg_ld (MB_high hI) hin_40 ex_41
        refine lv_icmp_le (tgt := 211) hx hb dX11_due_197 (by decide) (fun c_42 => ?_) (fun c_42 => ?_)
        · have t_c_42 := Int32.le_iff_toInt_le.mp c_42
          have hE := hE.trans (if_pos c_42)
          refine lv_aload_n hx hb dX11_due_211 rfl (lv_at hl 0 rfl) ?_
          refine va_get (D := D) (ci := 11) (v := .ref (mq 46)) (C := RX11) (T := TX11) (N := 74) hx hb ha inlX11 hown hK hP 0 mw_at0 rfl 46 (by decide) (ha _ kf_X11_106) (fun _ h9 => h9) rfl dX11_due_212 ?_
          refine lv_iload_n hx hb dX11_due_215 rfl (lv_at hl 1 rfl) ?_
          have hin_43 : vp_in f 4 := vpi_of (by omega) (by omega)
          refine va_iald hx hb hK hP 28 0 mw_at46 rfl hin_43 dX11_due_216 ?_
          refine lv_topi (fun x_44 ex_44 => ?_)
          have hE := bd_at ex_44 hE
          have u_x_44 := congrArg Int32.toInt ex_44
          have r_x_44 := rg_ld (MB_high hI) hin_43 ex_44
          have hin_45 : vp_in f 4 := vpi_of (by omega) (by omega)
          refine va_iast hx hb hK hP hD hS 28 0 mw_at46 rfl hin_45 dX11_due_217 (fun H locs hP hD hS => ?_)
          have hP : va_P D vwCl (mw cI cZ h0 mq mi_34 (va_up ma_35 46 (upd (ma_35 46) f.toNatClampNeg x_44))) H := mwP_46 hP
          have hD : va_D A (mw cI cZ h0 mq mi_34 (va_up ma_35 46 (upd (ma_35 46) f.toNatClampNeg x_44))) := mwD_46 hD
          generalize hma_46 : va_up ma_35 46 (upd (ma_35 46) f.toNatClampNeg x_44) = ma_46 at hP hD
          have hI : MB mi_34 ma_46 := by rw [← hma_46]; exact MBa_high hI (by omega) (by omega) (by have a1 := congrArg Int32.toInt (congrFun (hFA 44 (by decide)) f.toNatClampNeg); have a2 := MB_le2h hI f.toNatClampNeg hfN; omega)
          have hFA : ∀ k, k ∉ ([69, 57, 63, 48, 67, 47, 68, 49, 54, 53, 55, 45, 71, 61, 62, 31, 7, 8, 9, 46] : List Nat) → ma_46 k = ma0 k := fun k hk => by rw [← hma_46]; exact (va_up_ne _ _ (fun e => hk (by rw [e]; decide))).trans (hFA k hk)
          have hE := bs_at hma_46 hE
          refine lv_aload_n hx hb dX11_due_218 rfl (lv_at hl 0 rfl) ?_
          refine lv_iload_n hx hb dX11_due_219 rfl (lv_at hl 1 rfl) ?_
          have hFc := va_freeW hD hS hA
          refine va_callv (va_runV (As := [.int f]) (rest := []) ⟨hx, hb, hml, hown, ha⟩ (m_doubles l D cI cJ cZ cO _ h0 mq mi_34 ma_46 ph cl f hI hf0 hf4) (cwV 1 ha (gaV kl_X11_320 km_X11_doubles ks_X11_doubles kz_X11 kd_X11_doubles) rfl rfl rfl (by decide +kernel) ⟨Nat.le_of_ble_eq_true rfl, Nat.le_of_ble_eq_true rfl⟩) ⟨pw_blind, va_recv hK hP (ci := 11) (q0 := 0) rfl rfl, fun U hU hW => ⟨rfl, pw_start hU hW hP hK hD hN⟩⟩ rfl rfl hl.1 rfl (lv_room (Nat.le_of_ble_eq_true rfl)) dX11_due_220 ⟨Nat.le_of_ble_eq_true rfl, Nat.le_of_ble_eq_true rfl⟩) hS (fun q _ h => hFc q h) hFc (fun u t H1 locs ht hvm hw hB hz1 hk1 hS => ?_)
          obtain ⟨mi_48, ma_49, ⟨hf_50, hX1, hX2⟩, hP, hK1, hD1⟩ := hB
          have hE := bc_atv hX1 hX2 hE
          rw [ht] at hP
          have hD := hD1.weaken (fun k q _ h => hFc q.1 h)
          clear hD1
          generalize H1 = H at hP hS ⊢
          refine W.widen (k := 0) (n := 0) (Nat.le_refl _) (Nat.le_refl _) ?_
          have hI := hf_50.1
          have hFI : ∀ k, k ∉ ([26, 30, 28, 27, 6, 5] : List Nat) → mi_48 k = mi0 k := fun k hk => (hf_50.2.1 k (fun h => hk (by revert h; exact sub_of (by decide) k))).trans (hFI k hk)
          have hFA : ∀ k, k ∉ ([69, 57, 63, 48, 67, 47, 68, 49, 54, 53, 55, 45, 71, 61, 62, 31, 7, 8, 9, 46] : List Nat) → ma_49 k = ma0 k := fun k hk => (hf_50.2.2 k (fun h => hk (by revert h; exact sub_of (by decide) k))).trans (hFA k hk)
          refine lv_aload_n hx hb dX11_due_223 rfl (lv_at hl 0 rfl) ?_
          refine va_get (D := D) (ci := 11) (v := .ref (mq 61)) (C := RX11) (T := TX11) (N := 74) hx hb ha inlX11 hown hK hP 0 mw_at0 rfl 61 (by decide) (ha _ kf_X11_151) (fun _ h9 => h9) rfl dX11_due_224 ?_
          refine lv_iload_n hx hb dX11_due_227 rfl (lv_at hl 1 rfl) ?_
          refine lv_aload_n hx hb dX11_due_228 rfl (lv_at hl 0 rfl) ?_
          refine va_get (D := D) (ci := 11) (v := .int (mi_48 4)) (C := RX11) (T := TX11) (N := 74) hx hb ha inlX11 hown hK hP 0 mw_at0 rfl 4 (by decide) (ha _ kf_X11_207) (fun _ h9 => h9) rfl dX11_due_229 ?_
          refine lv_topi (fun x_51 ex_51 => ?_)
          have hE := bd_at ex_51 hE
          have u_x_51 := congrArg Int32.toInt ex_51
          have r_x_51 := MB_tick hI
          rw [← ex_51] at r_x_51
          refine lv_aload_n hx hb dX11_due_232 rfl (lv_at hl 0 rfl) ?_
          refine va_get (D := D) (ci := 11) (v := .ref (mq 49)) (C := RX11) (T := TX11) (N := 74) hx hb ha inlX11 hown hK hP 0 mw_at0 rfl 49 (by decide) (ha _ kf_X11_115) (fun _ h9 => h9) rfl dX11_due_233 ?_
          refine lv_iload_n hx hb dX11_due_236 rfl (lv_at hl 1 rfl) ?_
          have hin_52 : vp_in f 4 := vpi_of (by omega) (by omega)
          refine va_iald hx hb hK hP 31 0 mw_at49 rfl hin_52 dX11_due_237 ?_
          refine lv_topi (fun x_53 ex_53 => ?_)
          have hE := bd_at ex_53 hE
          have u_x_53 := congrArg Int32.toInt ex_53
          refine lv_iadd hx hb dX11_due_238 ?_
          refine lv_topi (fun x_54 ex_54 => ?_)
          have hE := bd_at ex_54 hE
          have hin_55 : vp_in f 4 := vpi_of (by omega) (by omega)
          refine va_iast hx hb hK hP hD hS 43 0 mw_at61 rfl hin_55 dX11_due_239 (fun H locs hP hD hS => ?_)
          have hP : va_P D vwCl (mw cI cZ h0 mq mi_48 (va_up ma_49 61 (upd (ma_49 61) f.toNatClampNeg x_54))) H := mwP_61 hP
          have hD : va_D A (mw cI cZ h0 mq mi_48 (va_up ma_49 61 (upd (ma_49 61) f.toNatClampNeg x_54))) := mwD_61 hD
          generalize hma_56 : va_up ma_49 61 (upd (ma_49 61) f.toNatClampNeg x_54) = ma_56 at hP hD
          have hI : MB mi_48 ma_56 := by rw [← hma_56]; exact MBa_timer hI
          have hFA : ∀ k, k ∉ ([69, 57, 63, 48, 67, 47, 68, 49, 54, 53, 55, 45, 71, 61, 62, 31, 7, 8, 9, 46] : List Nat) → ma_56 k = ma0 k := fun k hk => by rw [← hma_56]; exact (va_up_ne _ _ (fun e => hk (by rw [e]; decide))).trans (hFA k hk)
          have hE := bs_at hma_56 hE
          exact W.vret hx hb hr (fun t ht hW => ⟨⟨(), rfl, trivial, ⟨mi_48, ma_56, ⟨⟨hI, fun k hk => (hFI k hk).trans (by rw [hmi0]), fun k hk => (hFA k hk).trans (by rw [hma0])⟩, _, hRES.symm.trans hE⟩, by rw [ht]; exact hP, va_K.moved hW.alike hK, hD⟩⟩, hS.F ht⟩) hS.2.2 dX11_due_240
        · have t_c_42 := Int32.lt_iff_toInt_lt.mp (Int32.not_le.mp c_42)
          have hE := hE.trans (if_neg c_42)
          refine lv_aload_n hx hb dX11_due_200 rfl (lv_at hl 0 rfl) ?_
          refine va_get (D := D) (ci := 11) (v := .ref (mq 45)) (C := RX11) (T := TX11) (N := 74) hx hb ha inlX11 hown hK hP 0 mw_at0 rfl 45 (by decide) (ha _ kf_X11_103) (fun _ h9 => h9) rfl dX11_due_201 ?_
          refine lv_iload_n hx hb dX11_due_204 rfl (lv_at hl 1 rfl) ?_
          have hin_57 : vp_in f 4 := vpi_of (by omega) (by omega)
          refine va_iald hx hb hK hP 27 0 mw_at45 rfl hin_57 dX11_due_205 ?_
          refine lv_topi (fun x_58 ex_58 => ?_)
          have hE := bd_at ex_58 hE
          have u_x_58 := congrArg Int32.toInt ex_58
          have r_x_58 := rg_ld (MB_nxt hI) hin_57 ex_58
          refine lv_iconst (v := 1) hx hb dX11_due_206 (by decide) ?_
          refine lv_iadd hx hb dX11_due_207 ?_
          refine lv_topi (fun x_59 ex_59 => ?_)
          have hE := bd_at ex_59 hE
          try have t_x_59 := ti_add ex_59 (by omega) (by omega)
          refine lv_goto (tgt := 217) hx hb dX11_due_208 (by decide) ?_
          have hin_60 : vp_in f 4 := vpi_of (by omega) (by omega)
          refine va_iast hx hb hK hP hD hS 28 0 mw_at46 rfl hin_60 dX11_due_217 (fun H locs hP hD hS => ?_)
          have hP : va_P D vwCl (mw cI cZ h0 mq mi_34 (va_up ma_35 46 (upd (ma_35 46) f.toNatClampNeg x_59))) H := mwP_46 hP
          have hD : va_D A (mw cI cZ h0 mq mi_34 (va_up ma_35 46 (upd (ma_35 46) f.toNatClampNeg x_59))) := mwD_46 hD
          generalize hma_61 : va_up ma_35 46 (upd (ma_35 46) f.toNatClampNeg x_59) = ma_61 at hP hD
          have hI : MB mi_34 ma_61 := by rw [← hma_61]; exact MBa_high hI (by omega) (by omega) (by have a1 := congrArg Int32.toInt (congrFun (hFA 44 (by decide)) f.toNatClampNeg); have a2 := MB_le2h hI f.toNatClampNeg hfN; omega)
          have hFA : ∀ k, k ∉ ([69, 57, 63, 48, 67, 47, 68, 49, 54, 53, 55, 45, 71, 61, 62, 31, 7, 8, 9, 46] : List Nat) → ma_61 k = ma0 k := fun k hk => by rw [← hma_61]; exact (va_up_ne _ _ (fun e => hk (by rw [e]; decide))).trans (hFA k hk)
          have hE := bs_at hma_61 hE
          refine lv_aload_n hx hb dX11_due_218 rfl (lv_at hl 0 rfl) ?_
          refine lv_iload_n hx hb dX11_due_219 rfl (lv_at hl 1 rfl) ?_
          have hFc := va_freeW hD hS hA
          refine va_callv (va_runV (As := [.int f]) (rest := []) ⟨hx, hb, hml, hown, ha⟩ (m_doubles l D cI cJ cZ cO _ h0 mq mi_34 ma_61 ph cl f hI hf0 hf4) (cwV 1 ha (gaV kl_X11_320 km_X11_doubles ks_X11_doubles kz_X11 kd_X11_doubles) rfl rfl rfl (by decide +kernel) ⟨Nat.le_of_ble_eq_true rfl, Nat.le_of_ble_eq_true rfl⟩) ⟨pw_blind, va_recv hK hP (ci := 11) (q0 := 0) rfl rfl, fun U hU hW => ⟨rfl, pw_start hU hW hP hK hD hN⟩⟩ rfl rfl hl.1 rfl (lv_room (Nat.le_of_ble_eq_true rfl)) dX11_due_220 ⟨Nat.le_of_ble_eq_true rfl, Nat.le_of_ble_eq_true rfl⟩) hS (fun q _ h => hFc q h) hFc (fun u t H1 locs ht hvm hw hB hz1 hk1 hS => ?_)
          obtain ⟨mi_63, ma_64, ⟨hf_65, hX1, hX2⟩, hP, hK1, hD1⟩ := hB
          have hE := bc_atv hX1 hX2 hE
          rw [ht] at hP
          have hD := hD1.weaken (fun k q _ h => hFc q.1 h)
          clear hD1
          generalize H1 = H at hP hS ⊢
          refine W.widen (k := 0) (n := 0) (Nat.le_refl _) (Nat.le_refl _) ?_
          have hI := hf_65.1
          have hFI : ∀ k, k ∉ ([26, 30, 28, 27, 6, 5] : List Nat) → mi_63 k = mi0 k := fun k hk => (hf_65.2.1 k (fun h => hk (by revert h; exact sub_of (by decide) k))).trans (hFI k hk)
          have hFA : ∀ k, k ∉ ([69, 57, 63, 48, 67, 47, 68, 49, 54, 53, 55, 45, 71, 61, 62, 31, 7, 8, 9, 46] : List Nat) → ma_64 k = ma0 k := fun k hk => (hf_65.2.2 k (fun h => hk (by revert h; exact sub_of (by decide) k))).trans (hFA k hk)
          refine lv_aload_n hx hb dX11_due_223 rfl (lv_at hl 0 rfl) ?_
          refine va_get (D := D) (ci := 11) (v := .ref (mq 61)) (C := RX11) (T := TX11) (N := 74) hx hb ha inlX11 hown hK hP 0 mw_at0 rfl 61 (by decide) (ha _ kf_X11_151) (fun _ h9 => h9) rfl dX11_due_224 ?_
          refine lv_iload_n hx hb dX11_due_227 rfl (lv_at hl 1 rfl) ?_
          refine lv_aload_n hx hb dX11_due_228 rfl (lv_at hl 0 rfl) ?_
          refine va_get (D := D) (ci := 11) (v := .int (mi_63 4)) (C := RX11) (T := TX11) (N := 74) hx hb ha inlX11 hown hK hP 0 mw_at0 rfl 4 (by decide) (ha _ kf_X11_207) (fun _ h9 => h9) rfl dX11_due_229 ?_
          refine lv_topi (fun x_66 ex_66 => ?_)
          have hE := bd_at ex_66 hE
          have u_x_66 := congrArg Int32.toInt ex_66
          have r_x_66 := MB_tick hI
          rw [← ex_66] at r_x_66
          refine lv_aload_n hx hb dX11_due_232 rfl (lv_at hl 0 rfl) ?_
          refine va_get (D := D) (ci := 11) (v := .ref (mq 49)) (C := RX11) (T := TX11) (N := 74) hx hb ha inlX11 hown hK hP 0 mw_at0 rfl 49 (by decide) (ha _ kf_X11_115) (fun _ h9 => h9) rfl dX11_due_233 ?_
          refine lv_iload_n hx hb dX11_due_236 rfl (lv_at hl 1 rfl) ?_
          have hin_67 : vp_in f 4 := vpi_of (by omega) (by omega)
          refine va_iald hx hb hK hP 31 0 mw_at49 rfl hin_67 dX11_due_237 ?_
          refine lv_topi (fun x_68 ex_68 => ?_)
          have hE := bd_at ex_68 hE
          have u_x_68 := congrArg Int32.toInt ex_68
          refine lv_iadd hx hb dX11_due_238 ?_
          refine lv_topi (fun x_69 ex_69 => ?_)
          have hE := bd_at ex_69 hE
          have hin_70 : vp_in f 4 := vpi_of (by omega) (by omega)
          refine va_iast hx hb hK hP hD hS 43 0 mw_at61 rfl hin_70 dX11_due_239 (fun H locs hP hD hS => ?_)
          have hP : va_P D vwCl (mw cI cZ h0 mq mi_63 (va_up ma_64 61 (upd (ma_64 61) f.toNatClampNeg x_69))) H := mwP_61 hP
          have hD : va_D A (mw cI cZ h0 mq mi_63 (va_up ma_64 61 (upd (ma_64 61) f.toNatClampNeg x_69))) := mwD_61 hD
          generalize hma_71 : va_up ma_64 61 (upd (ma_64 61) f.toNatClampNeg x_69) = ma_71 at hP hD
          have hI : MB mi_63 ma_71 := by rw [← hma_71]; exact MBa_timer hI
          have hFA : ∀ k, k ∉ ([69, 57, 63, 48, 67, 47, 68, 49, 54, 53, 55, 45, 71, 61, 62, 31, 7, 8, 9, 46] : List Nat) → ma_71 k = ma0 k := fun k hk => by rw [← hma_71]; exact (va_up_ne _ _ (fun e => hk (by rw [e]; decide))).trans (hFA k hk)
          have hE := bs_at hma_71 hE
          exact W.vret hx hb hr (fun t ht hW => ⟨⟨(), rfl, trivial, ⟨mi_63, ma_71, ⟨⟨hI, fun k hk => (hFI k hk).trans (by rw [hmi0]), fun k hk => (hFA k hk).trans (by rw [hma0])⟩, _, hRES.symm.trans hE⟩, by rw [ht]; exact hP, va_K.moved hW.alike hK, hD⟩⟩, hS.F ht⟩) hS.2.2 dX11_due_240
      · have t_c_25 := Int32.le_iff_toInt_le.mp (Int32.not_lt.mp c_25)
        have hE := hE.trans (if_neg c_25)
        exact W.vret hx hb hr (fun t ht hW => ⟨⟨(), rfl, trivial, ⟨mi, ma_17, ⟨⟨hI, fun k hk => (hFI k hk).trans (by rw [hmi0]), fun k hk => (hFA k hk).trans (by rw [hma0])⟩, _, hRES.symm.trans hE⟩, by rw [ht]; exact hP, va_K.moved hW.alike hK, hD⟩⟩, hS.F ht⟩) hS.2.2 dX11_due_155
  · have t_c_15 := Int32.lt_iff_toInt_lt.mp (Int32.not_le.mp c_15)
    have hE := hE.trans (if_neg c_15)
    refine lv_aload_n hx hb dX11_due_22 rfl (lv_at hl 0 rfl) ?_
    refine va_get (D := D) (ci := 11) (v := .ref (mq 57)) (C := RX11) (T := TX11) (N := 74) hx hb ha inlX11 hown hK hP 0 mw_at0 rfl 57 (by decide) (ha _ kf_X11_139) (fun _ h9 => h9) rfl dX11_due_23 ?_
    refine lv_iload_n hx hb dX11_due_26 rfl (lv_at hl 1 rfl) ?_
    refine lv_dup2_11 hx hb dX11_due_27 rfl rfl ?_
    have hin_72 : vp_in f 4 := vpi_of (by omega) (by omega)
    refine va_iald hx hb hK hP 39 0 mw_at57 rfl hin_72 dX11_due_28 ?_
    refine lv_topi (fun x_73 ex_73 => ?_)
    have hE := bd_at ex_73 hE
    have u_x_73 := congrArg Int32.toInt ex_73
    refine lv_iconst (v := 1) hx hb dX11_due_29 (by decide) ?_
    refine lv_iadd hx hb dX11_due_30 ?_
    refine lv_topi (fun x_74 ex_74 => ?_)
    have hE := bd_at ex_74 hE
    have hin_75 : vp_in f 4 := vpi_of (by omega) (by omega)
    refine va_iast hx hb hK hP hD hS 39 0 mw_at57 rfl hin_75 dX11_due_31 (fun H locs hP hD hS => ?_)
    have hP : va_P D vwCl (mw cI cZ h0 mq mi (va_up ma_10 57 (upd (ma_10 57) f.toNatClampNeg x_74))) H := mwP_57 hP
    have hD : va_D A (mw cI cZ h0 mq mi (va_up ma_10 57 (upd (ma_10 57) f.toNatClampNeg x_74))) := mwD_57 hD
    generalize hma_76 : va_up ma_10 57 (upd (ma_10 57) f.toNatClampNeg x_74) = ma_76 at hP hD
    have hI : MB mi ma_76 := by rw [← hma_76]; exact MBa_timeouts hI
    have hFA : ∀ k, k ∉ ([69, 57, 63, 48, 67, 47, 68, 49, 54, 53, 55, 45, 71, 61, 62, 31, 7, 8, 9, 46] : List Nat) → ma_76 k = ma0 k := fun k hk => by rw [← hma_76]; exact (va_up_ne _ _ (fun e => hk (by rw [e]; decide))).trans (hFA k hk)
    have hE := bs_at hma_76 hE
    refine lv_aload_n hx hb dX11_due_32 rfl (lv_at hl 0 rfl) ?_
    refine lv_iload_n hx hb dX11_due_33 rfl (lv_at hl 1 rfl) ?_
    have hFc := va_freeW hD hS hA
    refine va_callv (va_runV (As := [.int f]) (rest := []) ⟨hx, hb, hml, hown, ha⟩ (m_loses l D cI cJ cZ cO _ h0 mq mi ma_76 ph cl f hI hf0 hf4) (cwV 1 ha (gaV kl_X11_304 km_X11_loses ks_X11_loses kz_X11 kd_X11_loses) rfl rfl rfl (by decide +kernel) ⟨Nat.le_of_ble_eq_true rfl, Nat.le_of_ble_eq_true rfl⟩) ⟨pw_blind, va_recv hK hP (ci := 11) (q0 := 0) rfl rfl, fun U hU hW => ⟨rfl, pw_start hU hW hP hK hD hN⟩⟩ rfl rfl hl.1 rfl (lv_room (Nat.le_of_ble_eq_true rfl)) dX11_due_34 ⟨Nat.le_of_ble_eq_true rfl, Nat.le_of_ble_eq_true rfl⟩) hS (fun q _ h => hFc q h) hFc (fun u t H1 locs ht hvm hw hB hz1 hk1 hS => ?_)
    obtain ⟨mi_78, ma_79, ⟨hf_80, hX1, hX2⟩, hP, hK1, hD1⟩ := hB
    have hE := bc_atv hX1 hX2 hE
    rw [ht] at hP
    have hD := hD1.weaken (fun k q _ h => hFc q.1 h)
    clear hD1
    generalize H1 = H at hP hS ⊢
    refine W.widen (k := 0) (n := 0) (Nat.le_refl _) (Nat.le_refl _) ?_
    have hI := hf_80.1
    have hFI : ∀ k, k ∉ ([26, 30, 28, 27, 6, 5] : List Nat) → mi_78 k = mi0 k := fun k hk => (hf_80.2.1 k (fun h => hk (by revert h; exact sub_of (by decide) k))).trans (hFI k hk)
    have hFA : ∀ k, k ∉ ([69, 57, 63, 48, 67, 47, 68, 49, 54, 53, 55, 45, 71, 61, 62, 31, 7, 8, 9, 46] : List Nat) → ma_79 k = ma0 k := fun k hk => (hf_80.2.2 k (fun h => hk (by revert h; exact sub_of (by decide) k))).trans (hFA k hk)
    refine lv_aload_n hx hb dX11_due_37 rfl (lv_at hl 0 rfl) ?_
    refine lv_iload_n hx hb dX11_due_38 rfl (lv_at hl 1 rfl) ?_
    refine lv_sipush (v := 1024) hx hb dX11_due_39 (by decide) ?_
    have hFc := va_freeW hD hS hA
    refine va_callv (va_runV (As := [.int f, .int 1024]) (rest := []) ⟨hx, hb, hml, hown, ha⟩ (m_opens l D cI cJ cZ cO _ h0 mq mi_78 ma_79 ph cl f 1024 hI hf0 hf4 (by omega)) (cwV 2 ha (gaV kl_X11_295 km_X11_opens ks_X11_opens kz_X11 kd_X11_opens) rfl rfl rfl (by decide +kernel) ⟨Nat.le_of_ble_eq_true rfl, Nat.le_of_ble_eq_true rfl⟩) ⟨pw_blind, va_recv hK hP (ci := 11) (q0 := 0) rfl rfl, fun U hU hW => ⟨rfl, pw_start hU hW hP hK hD hN⟩⟩ rfl rfl hl.1 rfl (lv_room (Nat.le_of_ble_eq_true rfl)) dX11_due_42 ⟨Nat.le_of_ble_eq_true rfl, Nat.le_of_ble_eq_true rfl⟩) hS (fun q _ h => hFc q h) hFc (fun u t H1 locs ht hvm hw hB hz1 hk1 hS => ?_)
    obtain ⟨mi_82, ma_83, ⟨hf_84, hX1, hX2⟩, hP, hK1, hD1⟩ := hB
    have hE := bc_atv hX1 hX2 hE
    rw [ht] at hP
    have hD := hD1.weaken (fun k q _ h => hFc q.1 h)
    clear hD1
    generalize H1 = H at hP hS ⊢
    refine W.widen (k := 0) (n := 0) (Nat.le_refl _) (Nat.le_refl _) ?_
    have hI := hf_84.1
    have hFI : ∀ k, k ∉ ([26, 30, 28, 27, 6, 5] : List Nat) → mi_82 k = mi0 k := fun k hk => (hf_84.2.1 k (fun h => hk (by revert h; exact sub_of (by decide) k))).trans (hFI k hk)
    have hFA : ∀ k, k ∉ ([69, 57, 63, 48, 67, 47, 68, 49, 54, 53, 55, 45, 71, 61, 62, 31, 7, 8, 9, 46] : List Nat) → ma_83 k = ma0 k := fun k hk => (hf_84.2.2 k (fun h => hk (by revert h; exact sub_of (by decide) k))).trans (hFA k hk)
    refine lv_aload_n hx hb dX11_due_45 rfl (lv_at hl 0 rfl) ?_
    refine lv_iload_n hx hb dX11_due_46 rfl (lv_at hl 1 rfl) ?_
    have hFc := va_freeW hD hS hA
    refine va_callv (va_runV (As := [.int f]) (rest := []) ⟨hx, hb, hml, hown, ha⟩ (m_doubles l D cI cJ cZ cO _ h0 mq mi_82 ma_83 ph cl f hI hf0 hf4) (cwV 1 ha (gaV kl_X11_320 km_X11_doubles ks_X11_doubles kz_X11 kd_X11_doubles) rfl rfl rfl (by decide +kernel) ⟨Nat.le_of_ble_eq_true rfl, Nat.le_of_ble_eq_true rfl⟩) ⟨pw_blind, va_recv hK hP (ci := 11) (q0 := 0) rfl rfl, fun U hU hW => ⟨rfl, pw_start hU hW hP hK hD hN⟩⟩ rfl rfl hl.1 rfl (lv_room (Nat.le_of_ble_eq_true rfl)) dX11_due_47 ⟨Nat.le_of_ble_eq_true rfl, Nat.le_of_ble_eq_true rfl⟩) hS (fun q _ h => hFc q h) hFc (fun u t H1 locs ht hvm hw hB hz1 hk1 hS => ?_)
    obtain ⟨mi_86, ma_87, ⟨hf_88, hX1, hX2⟩, hP, hK1, hD1⟩ := hB
    have hE := bc_atv hX1 hX2 hE
    rw [ht] at hP
    have hD := hD1.weaken (fun k q _ h => hFc q.1 h)
    clear hD1
    generalize H1 = H at hP hS ⊢
    refine W.widen (k := 0) (n := 0) (Nat.le_refl _) (Nat.le_refl _) ?_
    have hI := hf_88.1
    have hFI : ∀ k, k ∉ ([26, 30, 28, 27, 6, 5] : List Nat) → mi_86 k = mi0 k := fun k hk => (hf_88.2.1 k (fun h => hk (by revert h; exact sub_of (by decide) k))).trans (hFI k hk)
    have hFA : ∀ k, k ∉ ([69, 57, 63, 48, 67, 47, 68, 49, 54, 53, 55, 45, 71, 61, 62, 31, 7, 8, 9, 46] : List Nat) → ma_87 k = ma0 k := fun k hk => (hf_88.2.2 k (fun h => hk (by revert h; exact sub_of (by decide) k))).trans (hFA k hk)
    refine lv_aload_n hx hb dX11_due_50 rfl (lv_at hl 0 rfl) ?_
    refine va_get (D := D) (ci := 11) (v := .ref (mq 54)) (C := RX11) (T := TX11) (N := 74) hx hb ha inlX11 hown hK hP 0 mw_at0 rfl 54 (by decide) (ha _ kf_X11_130) (fun _ h9 => h9) rfl dX11_due_51 ?_
    refine lv_iload_n hx hb dX11_due_54 rfl (lv_at hl 1 rfl) ?_
    refine lv_iconst (v := 0) hx hb dX11_due_55 (by decide) ?_
    have hin_89 : vp_in f 4 := vpi_of (by omega) (by omega)
    refine va_zast hx hb hK hP hD hS 36 2 mw_at54 rfl hin_89 dX11_due_56 (fun H locs hP hD hS => ?_)
    have hP : va_P D vwCl (mw cI cZ h0 mq mi_86 (va_up ma_87 54 (upd (ma_87 54) f.toNatClampNeg (vp_nar .boolean (0 : Int32))))) H := mwP_54 hP
    have hD : va_D A (mw cI cZ h0 mq mi_86 (va_up ma_87 54 (upd (ma_87 54) f.toNatClampNeg (vp_nar .boolean (0 : Int32))))) := mwD_54 hD
    generalize hma_90 : va_up ma_87 54 (upd (ma_87 54) f.toNatClampNeg (vp_nar .boolean (0 : Int32))) = ma_90 at hP hD
    have hI : MB mi_86 ma_90 := by rw [← hma_90]; exact MBa_recovers hI
    have hFA : ∀ k, k ∉ ([69, 57, 63, 48, 67, 47, 68, 49, 54, 53, 55, 45, 71, 61, 62, 31, 7, 8, 9, 46] : List Nat) → ma_90 k = ma0 k := fun k hk => by rw [← hma_90]; exact (va_up_ne _ _ (fun e => hk (by rw [e]; decide))).trans (hFA k hk)
    have hE := bs_at hma_90 hE
    refine lv_aload_n hx hb dX11_due_57 rfl (lv_at hl 0 rfl) ?_
    refine va_get (D := D) (ci := 11) (v := .ref (mq 53)) (C := RX11) (T := TX11) (N := 74) hx hb ha inlX11 hown hK hP 0 mw_at0 rfl 53 (by decide) (ha _ kf_X11_127) (fun _ h9 => h9) rfl dX11_due_58 ?_
    refine lv_iload_n hx hb dX11_due_61 rfl (lv_at hl 1 rfl) ?_
    refine lv_iconst (v := 0) hx hb dX11_due_62 (by decide) ?_
    have hin_91 : vp_in f 4 := vpi_of (by omega) (by omega)
    refine va_iast hx hb hK hP hD hS 35 0 mw_at53 rfl hin_91 dX11_due_63 (fun H locs hP hD hS => ?_)
    have hP : va_P D vwCl (mw cI cZ h0 mq mi_86 (va_up ma_90 53 (upd (ma_90 53) f.toNatClampNeg (0 : Int32)))) H := mwP_53 hP
    have hD : va_D A (mw cI cZ h0 mq mi_86 (va_up ma_90 53 (upd (ma_90 53) f.toNatClampNeg (0 : Int32)))) := mwD_53 hD
    generalize hma_92 : va_up ma_90 53 (upd (ma_90 53) f.toNatClampNeg (0 : Int32)) = ma_92 at hP hD
    have hI : MB mi_86 ma_92 := by rw [← hma_92]; exact MBa_dup hI
    have hFA : ∀ k, k ∉ ([69, 57, 63, 48, 67, 47, 68, 49, 54, 53, 55, 45, 71, 61, 62, 31, 7, 8, 9, 46] : List Nat) → ma_92 k = ma0 k := fun k hk => by rw [← hma_92]; exact (va_up_ne _ _ (fun e => hk (by rw [e]; decide))).trans (hFA k hk)
    have hE := bs_at hma_92 hE
    refine lv_aload_n hx hb dX11_due_64 rfl (lv_at hl 0 rfl) ?_
    refine va_get (D := D) (ci := 11) (v := .ref (mq 55)) (C := RX11) (T := TX11) (N := 74) hx hb ha inlX11 hown hK hP 0 mw_at0 rfl 55 (by decide) (ha _ kf_X11_133) (fun _ h9 => h9) rfl dX11_due_65 ?_
    refine lv_iload_n hx hb dX11_due_68 rfl (lv_at hl 1 rfl) ?_
    refine lv_aload_n hx hb dX11_due_69 rfl (lv_at hl 0 rfl) ?_
    refine va_get (D := D) (ci := 11) (v := .ref (mq 46)) (C := RX11) (T := TX11) (N := 74) hx hb ha inlX11 hown hK hP 0 mw_at0 rfl 46 (by decide) (ha _ kf_X11_106) (fun _ h9 => h9) rfl dX11_due_70 ?_
    refine lv_iload_n hx hb dX11_due_73 rfl (lv_at hl 1 rfl) ?_
    have hin_93 : vp_in f 4 := vpi_of (by omega) (by omega)
    refine va_iald hx hb hK hP 28 0 mw_at46 rfl hin_93 dX11_due_74 ?_
    refine lv_topi (fun x_94 ex_94 => ?_)
    have hE := bd_at ex_94 hE
    have u_x_94 := congrArg Int32.toInt ex_94
    have r_x_94 := rg_ld (MB_high hI) hin_93 ex_94
    have hin_95 : vp_in f 4 := vpi_of (by omega) (by omega)
    refine va_iast hx hb hK hP hD hS 37 0 mw_at55 rfl hin_95 dX11_due_75 (fun H locs hP hD hS => ?_)
    have hP : va_P D vwCl (mw cI cZ h0 mq mi_86 (va_up ma_92 55 (upd (ma_92 55) f.toNatClampNeg x_94))) H := mwP_55 hP
    have hD : va_D A (mw cI cZ h0 mq mi_86 (va_up ma_92 55 (upd (ma_92 55) f.toNatClampNeg x_94))) := mwD_55 hD
    generalize hma_96 : va_up ma_92 55 (upd (ma_92 55) f.toNatClampNeg x_94) = ma_96 at hP hD
    have hI : MB mi_86 ma_96 := by rw [← hma_96]; exact MBa_recover hI (by omega) (by omega)
    have hFA : ∀ k, k ∉ ([69, 57, 63, 48, 67, 47, 68, 49, 54, 53, 55, 45, 71, 61, 62, 31, 7, 8, 9, 46] : List Nat) → ma_96 k = ma0 k := fun k hk => by rw [← hma_96]; exact (va_up_ne _ _ (fun e => hk (by rw [e]; decide))).trans (hFA k hk)
    have hE := bs_at hma_96 hE
    refine lv_aload_n hx hb dX11_due_76 rfl (lv_at hl 0 rfl) ?_
    refine va_get (D := D) (ci := 11) (v := .ref (mq 45)) (C := RX11) (T := TX11) (N := 74) hx hb ha inlX11 hown hK hP 0 mw_at0 rfl 45 (by decide) (ha _ kf_X11_103) (fun _ h9 => h9) rfl dX11_due_77 ?_
    refine lv_iload_n hx hb dX11_due_80 rfl (lv_at hl 1 rfl) ?_
    refine lv_aload_n hx hb dX11_due_81 rfl (lv_at hl 0 rfl) ?_
    refine va_get (D := D) (ci := 11) (v := .ref (mq 44)) (C := RX11) (T := TX11) (N := 74) hx hb ha inlX11 hown hK hP 0 mw_at0 rfl 44 (by decide) (ha _ kf_X11_100) (fun _ h9 => h9) rfl dX11_due_82 ?_
    refine lv_iload_n hx hb dX11_due_85 rfl (lv_at hl 1 rfl) ?_
    have hin_97 : vp_in f 4 := vpi_of (by omega) (by omega)
    refine va_iald hx hb hK hP 26 0 mw_at44 rfl hin_97 dX11_due_86 ?_
    refine lv_topi (fun x_98 ex_98 => ?_)
    have hE := bd_at ex_98 hE
    have u_x_98 := congrArg Int32.toInt ex_98
    have q_x_98 : x_98.toInt = x_14.toInt := congrArg Int32.toInt (ex_98.trans (((congrFun (congrFun hma_96 44) _).symm).trans (((congrFun (congrFun hma_92 44) _).symm).trans (((congrFun (congrFun hma_90 44) _).symm).trans ((congrFun (hf_88.2.2 44 (by decide)) _).trans ((congrFun (hf_84.2.2 44 (by decide)) _).trans ((congrFun (hf_80.2.2 44 (by decide)) _).trans (((congrFun (congrFun hma_76 44) _).symm).trans (ex_14.symm)))))))))
    have r_x_98 := rg_ld (MB_una hI) hin_97 ex_98
    have z_x_98 := congrArg Int32.toInt (congrFun (hFA 44 (by decide)) f.toNatClampNeg)
    have hin_99 : vp_in f 4 := vpi_of (by omega) (by omega)
    refine va_iast hx hb hK hP hD hS 27 0 mw_at45 rfl hin_99 dX11_due_87 (fun H locs hP hD hS => ?_)
    have hP : va_P D vwCl (mw cI cZ h0 mq mi_86 (va_up ma_96 45 (upd (ma_96 45) f.toNatClampNeg x_98))) H := mwP_45 hP
    have hD : va_D A (mw cI cZ h0 mq mi_86 (va_up ma_96 45 (upd (ma_96 45) f.toNatClampNeg x_98))) := mwD_45 hD
    generalize hma_100 : va_up ma_96 45 (upd (ma_96 45) f.toNatClampNeg x_98) = ma_100 at hP hD
    have hI : MB mi_86 ma_100 := by rw [← hma_100]; exact MBa_nxt hI (by omega) (by omega) (by omega)
    have hFA : ∀ k, k ∉ ([69, 57, 63, 48, 67, 47, 68, 49, 54, 53, 55, 45, 71, 61, 62, 31, 7, 8, 9, 46] : List Nat) → ma_100 k = ma0 k := fun k hk => by rw [← hma_100]; exact (va_up_ne _ _ (fun e => hk (by rw [e]; decide))).trans (hFA k hk)
    have hE := bs_at hma_100 hE
    refine lv_iconst (v := 0) hx hb dX11_due_88 (by decide) ?_
    refine lv_istore_n (lv' := [(2, .int 0), (0, .ref h0), (1, .int f)]) hx hb dX11_due_89 rfl hl (by decide) rfl (fun ls hl => ?_)
    exact J_90 201 mi_86 ma_100 (0 : Int32) _ _ hP hD hS hI hFI hFA hE (by omega) _ (lv_sub hl [1, 2, 0] rfl) (by omega)

set_option maxRecDepth 100000 in
def x_duplicate_116 (f : Int32) : Nat → (Nat → Int32) → (Nat → Nat → Int32) → Int32 → XT
  | 0, mi, ma, _ => (mi, ma, 0)
  | fu + 1, mi, ma, i2 => (if (512 : Int32) ≤ i2 then bd (ma 44 f.toNatClampNeg) (fun v1 => bd (va_up ma 56 (upd (ma 56) f.toNatClampNeg v1)) (fun a2 => bd (a2 44 f.toNatClampNeg) (fun v3 => bc (x_sendsAgain f v3 mi a2) (fun m4 a5 _ => bd (a5 48 f.toNatClampNeg) (fun v7 => bd (a5 42 f.toNatClampNeg) (fun v8 => (if v8 = (3 : Int32) then bd (v7 + (0 : Int32)) (fun v13 => bc (x_opens f v13 m4 a5) (fun m14 a15 _ => (m14, a15, 0))) else bd (v7 + (3072 : Int32)) (fun v9 => bc (x_opens f v9 m4 a5) (fun m10 a11 _ => (m10, a11, 0)))))))))) else bd ((512 : Int32) * f) (fun v17 => bd (v17 + i2) (fun v18 => bd (va_up ma 72 (upd (ma 72) v18.toNatClampNeg (vp_nar .boolean (0 : Int32)))) (fun a19 => bd (i2 + 1) (fun v20 => x_duplicate_116 f fu mi a19 v20)))))
set_option maxRecDepth 100000 in
def x_duplicate (f : Int32) (mi : Nat → Int32) (ma : Nat → Nat → Int32) : XT := bd (ma 53 f.toNatClampNeg) (fun v21 => bd (v21 + (1 : Int32)) (fun v22 => bd (va_up ma 53 (upd (ma 53) f.toNatClampNeg v22)) (fun a23 => bd (a23 54 f.toNatClampNeg) (fun v24 => (if v24 = (0 : Int32) then bd (a23 53 f.toNatClampNeg) (fun v25 => (if v25 = (3 : Int32) then bd (a23 42 f.toNatClampNeg) (fun v26 => (if v26 = (0 : Int32) then bd (va_up a23 54 (upd (a23 54) f.toNatClampNeg (vp_nar .boolean (1 : Int32)))) (fun a27 => bd (a27 58 f.toNatClampNeg) (fun v28 => bd (v28 + (1 : Int32)) (fun v29 => bd (va_up a27 58 (upd (a27 58) f.toNatClampNeg v29)) (fun a30 => bc (x_loses f mi a30) (fun m31 a32 _ => bd (a32 46 f.toNatClampNeg) (fun v34 => bd (va_up a32 55 (upd (a32 55) f.toNatClampNeg v34)) (fun a35 => x_duplicate_116 f 513 m31 a35 (0 : Int32)))))))) else bd (a23 44 f.toNatClampNeg) (fun v36 => bd (a23 55 f.toNatClampNeg) (fun v37 => (if v37 ≤ v36 then bd (va_up a23 54 (upd (a23 54) f.toNatClampNeg (vp_nar .boolean (1 : Int32)))) (fun a38 => bd (a38 58 f.toNatClampNeg) (fun v39 => bd (v39 + (1 : Int32)) (fun v40 => bd (va_up a38 58 (upd (a38 58) f.toNatClampNeg v40)) (fun a41 => bc (x_loses f mi a41) (fun m42 a43 _ => bd (a43 46 f.toNatClampNeg) (fun v45 => bd (va_up a43 55 (upd (a43 55) f.toNatClampNeg v45)) (fun a46 => x_duplicate_116 f 513 m42 a46 (0 : Int32)))))))) else (mi, a23, 0)))))) else (mi, a23, 0))) else bd (a23 42 f.toNatClampNeg) (fun v47 => (if v47 = (3 : Int32) then (mi, a23, 0) else bd (a23 47 f.toNatClampNeg) (fun v48 => bd (v48 + (1024 : Int32)) (fun v49 => bc (x_opens f v49 mi a23) (fun m50 a51 _ => (m50, a51, 0)))))))))))
set_option maxHeartbeats 4000000 in
set_option maxRecDepth 100000 in
theorem m_duplicate (l : Launch) (D : va_G) (cI cJ cZ cO : ClassId) (sz : Nat) (h0 : Nat) (mq : Nat → Nat) (mi : Nat → Int32) (ma : Nat → Nat → Int32) (ph : Nat) (cl : Int) (f : Int32) (hI : MB mi ma) (hf0 : 0 ≤ f.toInt) (hf4 : f.toInt < 4) (hff : f.toInt < (mi 32).toInt) (hnu : (ma 44 f.toNatClampNeg).toInt < (ma 45 f.toNatClampNeg).toInt) : Met l yX11_duplicate (wa yX11_duplicate cX11_duplicate 3 none) ({ frames := 3, cells := 0, slots := 0, locals := 69 }) (va_Pc [.ref h0, .int f] (pw_s D cI cJ cZ cO sz (mw cI cZ h0 mq mi ma))) (va_Qv (fun (_ : Unit) => True) (fun (_ : Unit) (t : State) => ∃ (mi2 : Nat → Int32) (ma2 : Nat → Nat → Int32), ((MB mi2 ma2 ∧ (∀ k, k ∉ ([26, 30, 28, 27, 6, 5] : List Nat) → mi2 k = mi k) ∧ (∀ k, k ∉ ([53, 47, 68, 54, 58, 63, 48, 67, 55, 72, 56, 31, 7, 8, 9, 59, 69, 46, 70, 61] : List Nat) → ma2 k = ma k)) ∧ mi2 = (x_duplicate f mi ma).1 ∧ ma2 = (x_duplicate f mi ma).2.1) ∧ pw_t D cI cJ cZ cO (va_A (mw cI cZ h0 mq mi ma) sz) (mw cI cZ h0 mq mi2 ma2) t) (va_A (mw cI cZ h0 mq mi ma) sz)) 0 0 (va_A (mw cI cZ h0 mq mi ma) sz) := by
  refine Met.ofW (cc := cX11_duplicate) (maxL := 3) (ret := none) (by decide) rfl ?_
  intro p e s m args below meth c s₁ B hml hv
  obtain ⟨rfl, hsz, hP, hK, hD0, hN⟩ := hv
  have hx := B.exec
  have hb := B.bytes
  have hr := B.returns
  have hts := atoms_spec (ws := (wa yX11_duplicate cX11_duplicate 3 none)) B.pre
  have ha : ∀ w ∈ wsL_law, w.before _ s = true := fun w h => hts w (List.mem_cons_of_mem _ h)
  have hown : s.vm.findClass RX11 = some m.cls := findClass_of_methodNamed B.named
  have hlocks := B.notSynchronized
  subst hsz
  have hD := hD0.self (sz := s.heap.size)
  generalize hAe : va_A (mw cI cZ h0 mq mi ma) s.heap.size = A at hD ⊢
  have hA : ∀ q : Nat, s.heap.size ≤ q → A q := fun q h => by rw [← hAe]; exact Or.inr h
  have hS : va_S A s.heap s.heap [] := va_S.rf
  have hP : va_P D vwCl (mw cI cZ h0 mq mi ma) s.heap := hP
  have hl := lv_entry ([.ref h0, .int f]) (n := 3) (Nat.le_of_ble_eq_true rfl)
  rw [lg_entry_eq]
  generalize (lg_sl ([.ref h0, .int f]) ++ List.replicate (3 - (lg_sl ([.ref h0, .int f])).length) Slot.unset).toArray = ls at hl ⊢
  have hl : lv_has ls 3 [(0, .ref h0), (1, .int f)] := hl
  have kc_m1 := tk_m1
  have kc_0 := tk_0
  have kc_1 := tk_1
  have kc_3 := tk_3
  have kc_512 := tk_512
  have kc_1024 := tk_1024
  have kc_3072 := tk_3072
  obtain ⟨mi0, hmi0⟩ : ∃ y, y = mi := ⟨_, rfl⟩
  obtain ⟨ma0, hma0⟩ : ∃ y, y = ma := ⟨_, rfl⟩
  have hFI : ∀ k, k ∉ ([26, 30, 28, 27, 6, 5] : List Nat) → mi k = mi0 k := fun k _ => by rw [hmi0]
  have hFA : ∀ k, k ∉ ([53, 47, 68, 54, 58, 63, 48, 67, 55, 72, 56, 31, 7, 8, 9, 59, 69, 46, 70, 61] : List Nat) → ma k = ma0 k := fun k _ => by rw [hma0]
  obtain ⟨QP, hQP⟩ : ∃ y : State → Prop, y = (MQ below (va_Qv (fun (_ : Unit) => True) (fun (_ : Unit) (t : State) => ∃ (mi2 : Nat → Int32) (ma2 : Nat → Nat → Int32), ((MB mi2 ma2 ∧ (∀ k, k ∉ ([26, 30, 28, 27, 6, 5] : List Nat) → mi2 k = mi k) ∧ (∀ k, k ∉ ([53, 47, 68, 54, 58, 63, 48, 67, 55, 72, 56, 31, 7, 8, 9, 59, 69, 46, 70, 61] : List Nat) → ma2 k = ma k)) ∧ mi2 = (x_duplicate f mi ma).1 ∧ ma2 = (x_duplicate f mi ma).2.1) ∧ pw_t D cI cJ cZ cO A (mw cI cZ h0 mq mi2 ma2) t) A) #[(.ref h0 : Value), (.int f : Value)] s 0 0 A) := ⟨_, rfl⟩
  obtain ⟨RES, hRES⟩ : ∃ y, y = (x_duplicate f mi ma) := ⟨_, rfl⟩
  have hfN : f.toNatClampNeg < 4 := in_lt (vpi_of (n := 4) hf0 (by omega))
  have hle := MB_le2n hI f.toNatClampNeg hfN
  have hlh := MB_le2h hI f.toNatClampNeg hfN
  have y44 : (ma0 44 f.toNatClampNeg).toInt = (ma 44 f.toNatClampNeg).toInt := by rw [hma0]
  have y45 := MB_nxt hI f.toNatClampNeg hfN
  have y44b := MB_una hI f.toNatClampNeg hfN
  have J_116 : ∀ (n_116 : Nat), ∀ (mi : Nat → Int32) (ma : Nat → Nat → Int32) (i2 : Int32) (H : Heap) (locs : List Loc), va_P D vwCl (mw cI cZ h0 mq mi ma) H → va_D A (mw cI cZ h0 mq mi ma) → va_S A s.heap H locs → MB mi ma → (∀ k, k ∉ ([26, 30, 28, 27, 6, 5] : List Nat) → mi k = mi0 k) → (∀ k, k ∉ ([53, 47, 68, 54, 58, 63, 48, 67, 55, 72, 56, 31, 7, 8, 9, 59, 69, 46, 70, 61] : List Nat) → ma k = ma0 k) → RES = x_duplicate_116 f n_116 mi ma i2 → 0 ≤ i2.toInt → ∀ (ls : Array Slot), lv_has ls 3 [(0, .ref h0), (1, .int f), (2, .int i2)] → ((512 - i2.toInt).toNat) < n_116 → W p l e ({ frames := 3, cells := 0, slots := 0, locals := 69 }) s m #[(.ref h0 : Value), (.int f : Value)] below meth c H locs 0 0 QP (F0 m 116 ls []) := by
    intro n_116
    induction n_116 with
    | zero => intros; exact absurd ‹_ < 0› (Nat.not_lt_zero _)
    | succ n_116 ih_116 =>
      intro mi ma i2 H locs hP hD hS hI hFI hFA hE hv ls hl hm
      have hfN : f.toNatClampNeg < 4 := in_lt (vpi_of (n := 4) hf0 (by omega))
      have hle := MB_le2n hI f.toNatClampNeg hfN
      have hlh := MB_le2h hI f.toNatClampNeg hfN
      rw [x_duplicate_116] at hE
      refine lv_iload_n hx hb dX11_duplicate_116 rfl (lv_at hl 2 rfl) ?_
      refine lv_sipush (v := 512) hx hb dX11_duplicate_117 (by decide) ?_
      refine lv_icmp_ge (tgt := 142) hx hb dX11_duplicate_120 (by decide) (fun c_1 => ?_) (fun c_1 => ?_)
      · have t_c_1 := Int32.le_iff_toInt_le.mp c_1
        have hE := hE.trans (if_pos c_1)
        refine lv_aload_n hx hb dX11_duplicate_142 rfl (lv_at hl 0 rfl) ?_
        refine va_get (D := D) (ci := 11) (v := .ref (mq 56)) (C := RX11) (T := TX11) (N := 74) hx hb ha inlX11 hown hK hP 0 mw_at0 rfl 56 (by decide) (ha _ kf_X11_136) (fun _ h9 => h9) rfl dX11_duplicate_143 ?_
        refine lv_iload_n hx hb dX11_duplicate_146 rfl (lv_at hl 1 rfl) ?_
        refine lv_aload_n hx hb dX11_duplicate_147 rfl (lv_at hl 0 rfl) ?_
        refine va_get (D := D) (ci := 11) (v := .ref (mq 44)) (C := RX11) (T := TX11) (N := 74) hx hb ha inlX11 hown hK hP 0 mw_at0 rfl 44 (by decide) (ha _ kf_X11_100) (fun _ h9 => h9) rfl dX11_duplicate_148 ?_
        refine lv_iload_n hx hb dX11_duplicate_151 rfl (lv_at hl 1 rfl) ?_
        have hin_2 : vp_in f 4 := vpi_of (by omega) (by omega)
        refine va_iald hx hb hK hP 26 0 mw_at44 rfl hin_2 dX11_duplicate_152 ?_
        refine lv_topi (fun x_3 ex_3 => ?_)
        have hE := bd_at ex_3 hE
        have u_x_3 := congrArg Int32.toInt ex_3
        have r_x_3 := rg_ld (MB_una hI) hin_2 ex_3
        have z_x_3 := congrArg Int32.toInt (congrFun (hFA 44 (by decide)) f.toNatClampNeg)
        have hin_4 : vp_in f 4 := vpi_of (by omega) (by omega)
        refine va_iast hx hb hK hP hD hS 38 0 mw_at56 rfl hin_4 dX11_duplicate_153 (fun H locs hP hD hS => ?_)
        have hP : va_P D vwCl (mw cI cZ h0 mq mi (va_up ma 56 (upd (ma 56) f.toNatClampNeg x_3))) H := mwP_56 hP
        have hD : va_D A (mw cI cZ h0 mq mi (va_up ma 56 (upd (ma 56) f.toNatClampNeg x_3))) := mwD_56 hD
        generalize hma_5 : va_up ma 56 (upd (ma 56) f.toNatClampNeg x_3) = ma_5 at hP hD
        have hI : MB mi ma_5 := by rw [← hma_5]; exact MBa_began hI
        have hFA : ∀ k, k ∉ ([53, 47, 68, 54, 58, 63, 48, 67, 55, 72, 56, 31, 7, 8, 9, 59, 69, 46, 70, 61] : List Nat) → ma_5 k = ma0 k := fun k hk => by rw [← hma_5]; exact (va_up_ne _ _ (fun e => hk (by rw [e]; decide))).trans (hFA k hk)
        have hE := bs_at hma_5 hE
        refine lv_aload_n hx hb dX11_duplicate_154 rfl (lv_at hl 0 rfl) ?_
        refine lv_iload_n hx hb dX11_duplicate_155 rfl (lv_at hl 1 rfl) ?_
        refine lv_aload_n hx hb dX11_duplicate_156 rfl (lv_at hl 0 rfl) ?_
        refine va_get (D := D) (ci := 11) (v := .ref (mq 44)) (C := RX11) (T := TX11) (N := 74) hx hb ha inlX11 hown hK hP 0 mw_at0 rfl 44 (by decide) (ha _ kf_X11_100) (fun _ h9 => h9) rfl dX11_duplicate_157 ?_
        refine lv_iload_n hx hb dX11_duplicate_160 rfl (lv_at hl 1 rfl) ?_
        have hin_6 : vp_in f 4 := vpi_of (by omega) (by omega)
        refine va_iald hx hb hK hP 26 0 mw_at44 rfl hin_6 dX11_duplicate_161 ?_
        refine lv_topi (fun x_7 ex_7 => ?_)
        have hE := bd_at ex_7 hE
        have u_x_7 := congrArg Int32.toInt ex_7
        have q_x_7 : x_7.toInt = x_3.toInt := congrArg Int32.toInt (ex_7.trans (((congrFun (congrFun hma_5 44) _).symm).trans (ex_3.symm)))
        have r_x_7 := rg_ld (MB_una hI) hin_6 ex_7
        have z_x_7 := congrArg Int32.toInt (congrFun (hFA 44 (by decide)) f.toNatClampNeg)
        have hFc := va_freeW hD hS hA
        refine va_callv (va_runV (As := [.int f, .int x_7]) (rest := []) ⟨hx, hb, hml, hown, ha⟩ (m_sendsAgain l D cI cJ cZ cO _ h0 mq mi ma_5 ph cl f x_7 hI hf0 hf4 (by rw [hFI 32 (by decide), hmi0]; omega) (by omega) (by omega) (by omega)) (cwV 2 ha (gaV kl_X11_301 km_X11_sendsAgain ks_X11_sendsAgain kz_X11 kd_X11_sendsAgain) rfl rfl rfl (by decide +kernel) ⟨Nat.le_of_ble_eq_true rfl, Nat.le_of_ble_eq_true rfl⟩) ⟨pw_blind, va_recv hK hP (ci := 11) (q0 := 0) rfl rfl, fun U hU hW => ⟨rfl, pw_start hU hW hP hK hD hN⟩⟩ rfl rfl hl.1 rfl (lv_room (Nat.le_of_ble_eq_true rfl)) dX11_duplicate_162 ⟨Nat.le_of_ble_eq_true rfl, Nat.le_of_ble_eq_true rfl⟩) hS (fun q _ h => hFc q h) hFc (fun u t H1 locs ht hvm hw hB hz1 hk1 hS => ?_)
        obtain ⟨mi_9, ma_10, ⟨hf_11, hX1, hX2⟩, hP, hK1, hD1⟩ := hB
        have hE := bc_atv hX1 hX2 hE
        rw [ht] at hP
        have hD := hD1.weaken (fun k q _ h => hFc q.1 h)
        clear hD1
        generalize H1 = H at hP hS ⊢
        refine W.widen (k := 0) (n := 0) (Nat.le_refl _) (Nat.le_refl _) ?_
        have hI := hf_11.1
        have hFI : ∀ k, k ∉ ([26, 30, 28, 27, 6, 5] : List Nat) → mi_9 k = mi0 k := fun k hk => (hf_11.2.1 k (fun h => hk (by revert h; exact sub_of (by decide) k))).trans (hFI k hk)
        have hFA : ∀ k, k ∉ ([53, 47, 68, 54, 58, 63, 48, 67, 55, 72, 56, 31, 7, 8, 9, 59, 69, 46, 70, 61] : List Nat) → ma_10 k = ma0 k := fun k hk => (hf_11.2.2.1 k (fun h => hk (by revert h; exact sub_of (by decide) k))).trans (hFA k hk)
        refine lv_aload_n hx hb dX11_duplicate_165 rfl (lv_at hl 0 rfl) ?_
        refine lv_iload_n hx hb dX11_duplicate_166 rfl (lv_at hl 1 rfl) ?_
        refine lv_aload_n hx hb dX11_duplicate_167 rfl (lv_at hl 0 rfl) ?_
        refine va_get (D := D) (ci := 11) (v := .ref (mq 48)) (C := RX11) (T := TX11) (N := 74) hx hb ha inlX11 hown hK hP 0 mw_at0 rfl 48 (by decide) (ha _ kf_X11_112) (fun _ h9 => h9) rfl dX11_duplicate_168 ?_
        refine lv_iload_n hx hb dX11_duplicate_171 rfl (lv_at hl 1 rfl) ?_
        have hin_12 : vp_in f 4 := vpi_of (by omega) (by omega)
        refine va_iald hx hb hK hP 30 0 mw_at48 rfl hin_12 dX11_duplicate_172 ?_
        refine lv_topi (fun x_13 ex_13 => ?_)
        have hE := bd_at ex_13 hE
        have u_x_13 := congrArg Int32.toInt ex_13
        have r_x_13 := rg_ld (MB_ssthresh hI) hin_12 ex_13
        have g1_x_13 := ge1_ld (MB_ge1s hI) hf0 (by rw [hFI 32 (by decide), hmi0]; omega) ex_13
        have nz_x_13 : ¬ x_13 = 0 := nz_of g1_x_13
        refine lv_aload_n hx hb dX11_duplicate_173 rfl (lv_at hl 0 rfl) ?_
        refine va_get (D := D) (ci := 11) (v := .ref (mq 42)) (C := RX11) (T := TX11) (N := 74) hx hb ha inlX11 hown hK hP 0 mw_at0 rfl 42 (by decide) (ha _ kf_X11_94) (fun _ h9 => h9) rfl dX11_duplicate_174 ?_
        refine lv_iload_n hx hb dX11_duplicate_177 rfl (lv_at hl 1 rfl) ?_
        have hin_14 : vp_in f 4 := vpi_of (by omega) (by omega)
        refine va_iald hx hb hK hP 24 0 mw_at42 rfl hin_14 dX11_duplicate_178 ?_
        refine lv_topi (fun x_15 ex_15 => ?_)
        have hE := bd_at ex_15 hE
        have u_x_15 := congrArg Int32.toInt ex_15
        refine lv_iconst (v := 3) hx hb dX11_duplicate_179 (by decide) ?_
        refine lv_icmp_ne (tgt := 187) hx hb dX11_duplicate_180 (by decide) (fun c_16 => ?_) (fun c_16 => ?_)
        · have t_c_16 := mt Int32.toInt_inj.mp c_16
          have hE := hE.trans (if_neg c_16)
          refine lv_sipush (v := 3072) hx hb dX11_duplicate_187 (by decide) ?_
          refine lv_iadd hx hb dX11_duplicate_190 ?_
          refine lv_topi (fun x_17 ex_17 => ?_)
          have hE := bd_at ex_17 hE
          try have t_x_17 := ti_add ex_17 (by omega) (by omega)
          have hFc := va_freeW hD hS hA
          refine va_callv (va_runV (As := [.int f, .int x_17]) (rest := []) ⟨hx, hb, hml, hown, ha⟩ (m_opens l D cI cJ cZ cO _ h0 mq mi_9 ma_10 ph cl f x_17 hI hf0 hf4 (by omega)) (cwV 2 ha (gaV kl_X11_295 km_X11_opens ks_X11_opens kz_X11 kd_X11_opens) rfl rfl rfl (by decide +kernel) ⟨Nat.le_of_ble_eq_true rfl, Nat.le_of_ble_eq_true rfl⟩) ⟨pw_blind, va_recv hK hP (ci := 11) (q0 := 0) rfl rfl, fun U hU hW => ⟨rfl, pw_start hU hW hP hK hD hN⟩⟩ rfl rfl hl.1 rfl (lv_room (Nat.le_of_ble_eq_true rfl)) dX11_duplicate_191 ⟨Nat.le_of_ble_eq_true rfl, Nat.le_of_ble_eq_true rfl⟩) hS (fun q _ h => hFc q h) hFc (fun u t H1 locs ht hvm hw hB hz1 hk1 hS => ?_)
          obtain ⟨mi_19, ma_20, ⟨hf_21, hX1, hX2⟩, hP, hK1, hD1⟩ := hB
          have hE := bc_atv hX1 hX2 hE
          rw [ht] at hP
          have hD := hD1.weaken (fun k q _ h => hFc q.1 h)
          clear hD1
          generalize H1 = H at hP hS ⊢
          refine W.widen (k := 0) (n := 0) (Nat.le_refl _) (Nat.le_refl _) ?_
          have hI := hf_21.1
          have hFI : ∀ k, k ∉ ([26, 30, 28, 27, 6, 5] : List Nat) → mi_19 k = mi0 k := fun k hk => (hf_21.2.1 k (fun h => hk (by revert h; exact sub_of (by decide) k))).trans (hFI k hk)
          have hFA : ∀ k, k ∉ ([53, 47, 68, 54, 58, 63, 48, 67, 55, 72, 56, 31, 7, 8, 9, 59, 69, 46, 70, 61] : List Nat) → ma_20 k = ma0 k := fun k hk => (hf_21.2.2 k (fun h => hk (by revert h; exact sub_of (by decide) k))).trans (hFA k hk)
          rw [hQP]
          exact W.vret hx hb hr (fun t ht hW => ⟨⟨(), rfl, trivial, ⟨mi_19, ma_20, ⟨⟨hI, fun k hk => (hFI k hk).trans (by rw [hmi0]), fun k hk => (hFA k hk).trans (by rw [hma0])⟩, by rw [← hRES, hE], by rw [← hRES, hE]⟩, by rw [ht]; exact hP, va_K.moved hW.alike hK, hD⟩⟩, hS.F ht⟩) hS.2.2 dX11_duplicate_194
        · have t_c_16 := congrArg Int32.toInt c_16
          have hE := hE.trans (if_pos c_16)
          refine lv_iconst (v := 0) hx hb dX11_duplicate_183 (by decide) ?_
          refine lv_goto (tgt := 190) hx hb dX11_duplicate_184 (by decide) ?_
          refine lv_iadd hx hb dX11_duplicate_190 ?_
          refine lv_topi (fun x_22 ex_22 => ?_)
          have hE := bd_at ex_22 hE
          try have t_x_22 := ti_add ex_22 (by omega) (by omega)
          have hFc := va_freeW hD hS hA
          refine va_callv (va_runV (As := [.int f, .int x_22]) (rest := []) ⟨hx, hb, hml, hown, ha⟩ (m_opens l D cI cJ cZ cO _ h0 mq mi_9 ma_10 ph cl f x_22 hI hf0 hf4 (by omega)) (cwV 2 ha (gaV kl_X11_295 km_X11_opens ks_X11_opens kz_X11 kd_X11_opens) rfl rfl rfl (by decide +kernel) ⟨Nat.le_of_ble_eq_true rfl, Nat.le_of_ble_eq_true rfl⟩) ⟨pw_blind, va_recv hK hP (ci := 11) (q0 := 0) rfl rfl, fun U hU hW => ⟨rfl, pw_start hU hW hP hK hD hN⟩⟩ rfl rfl hl.1 rfl (lv_room (Nat.le_of_ble_eq_true rfl)) dX11_duplicate_191 ⟨Nat.le_of_ble_eq_true rfl, Nat.le_of_ble_eq_true rfl⟩) hS (fun q _ h => hFc q h) hFc (fun u t H1 locs ht hvm hw hB hz1 hk1 hS => ?_)
          obtain ⟨mi_24, ma_25, ⟨hf_26, hX1, hX2⟩, hP, hK1, hD1⟩ := hB
          have hE := bc_atv hX1 hX2 hE
          rw [ht] at hP
          have hD := hD1.weaken (fun k q _ h => hFc q.1 h)
          clear hD1
          generalize H1 = H at hP hS ⊢
          refine W.widen (k := 0) (n := 0) (Nat.le_refl _) (Nat.le_refl _) ?_
          have hI := hf_26.1
          have hFI : ∀ k, k ∉ ([26, 30, 28, 27, 6, 5] : List Nat) → mi_24 k = mi0 k := fun k hk => (hf_26.2.1 k (fun h => hk (by revert h; exact sub_of (by decide) k))).trans (hFI k hk)
          have hFA : ∀ k, k ∉ ([53, 47, 68, 54, 58, 63, 48, 67, 55, 72, 56, 31, 7, 8, 9, 59, 69, 46, 70, 61] : List Nat) → ma_25 k = ma0 k := fun k hk => (hf_26.2.2 k (fun h => hk (by revert h; exact sub_of (by decide) k))).trans (hFA k hk)
          rw [hQP]
          exact W.vret hx hb hr (fun t ht hW => ⟨⟨(), rfl, trivial, ⟨mi_24, ma_25, ⟨⟨hI, fun k hk => (hFI k hk).trans (by rw [hmi0]), fun k hk => (hFA k hk).trans (by rw [hma0])⟩, by rw [← hRES, hE], by rw [← hRES, hE]⟩, by rw [ht]; exact hP, va_K.moved hW.alike hK, hD⟩⟩, hS.F ht⟩) hS.2.2 dX11_duplicate_194
      · have t_c_1 := Int32.lt_iff_toInt_lt.mp (Int32.not_le.mp c_1)
        have hE := hE.trans (if_neg c_1)
        refine lv_aload_n hx hb dX11_duplicate_123 rfl (lv_at hl 0 rfl) ?_
        refine va_get (D := D) (ci := 11) (v := .ref (mq 72)) (C := RX11) (T := TX11) (N := 74) hx hb ha inlX11 hown hK hP 0 mw_at0 rfl 72 (by decide) (ha _ kf_X11_184) (fun _ h9 => h9) rfl dX11_duplicate_124 ?_
        refine lv_sipush (v := 512) hx hb dX11_duplicate_127 (by decide) ?_
        refine lv_iload_n hx hb dX11_duplicate_130 rfl (lv_at hl 1 rfl) ?_
        refine lv_imul hx hb dX11_duplicate_131 ?_
        refine lv_topi (fun x_27 ex_27 => ?_)
        have hE := bd_at ex_27 hE
        try have t_x_27 := ti_mulc (k := 512) ex_27 tk_512 (by omega) (by omega)
        refine lv_iload_n hx hb dX11_duplicate_132 rfl (lv_at hl 2 rfl) ?_
        refine lv_iadd hx hb dX11_duplicate_133 ?_
        refine lv_topi (fun x_28 ex_28 => ?_)
        have hE := bd_at ex_28 hE
        try have t_x_28 := ti_add ex_28 (by omega) (by omega)
        refine lv_iconst (v := 0) hx hb dX11_duplicate_134 (by decide) ?_
        have hin_29 : vp_in x_28 2048 := vpi_of (by omega) (by omega)
        refine va_zast hx hb hK hP hD hS 54 2 mw_at72 rfl hin_29 dX11_duplicate_135 (fun H locs hP hD hS => ?_)
        have hP : va_P D vwCl (mw cI cZ h0 mq mi (va_up ma 72 (upd (ma 72) x_28.toNatClampNeg (vp_nar .boolean (0 : Int32))))) H := mwP_72 hP
        have hD : va_D A (mw cI cZ h0 mq mi (va_up ma 72 (upd (ma 72) x_28.toNatClampNeg (vp_nar .boolean (0 : Int32))))) := mwD_72 hD
        generalize hma_30 : va_up ma 72 (upd (ma 72) x_28.toNatClampNeg (vp_nar .boolean (0 : Int32))) = ma_30 at hP hD
        have hI : MB mi ma_30 := by rw [← hma_30]; exact MBa_resent hI
        have hFA : ∀ k, k ∉ ([53, 47, 68, 54, 58, 63, 48, 67, 55, 72, 56, 31, 7, 8, 9, 59, 69, 46, 70, 61] : List Nat) → ma_30 k = ma0 k := fun k hk => by rw [← hma_30]; exact (va_up_ne _ _ (fun e => hk (by rw [e]; decide))).trans (hFA k hk)
        have hE := bs_at hma_30 hE
        obtain ⟨x_31, ex_31⟩ : ∃ y : Int32, y = i2 + 1 := ⟨_, rfl⟩
        have hE := bd_at ex_31 hE
        refine lv_iinc (v := x_31) (lv' := [(2, .int x_31), (0, .ref h0), (1, .int f)]) hx hb dX11_duplicate_136 hl (k := 2) rfl (by rw [ex_31]; rfl) (by decide) rfl (fun ls hl => ?_)
        try have t_x_31 := ti_add ex_31 (by omega) (by omega)
        refine lv_goto (tgt := 116) hx hb dX11_duplicate_139 (by decide) ?_
        exact ih_116 mi ma_30 x_31 _ _ hP hD hS hI hFI hFA hE (by omega) _ (lv_sub hl [1, 2, 0] rfl) (by omega)
  -- from the entry
  rw [hQP] at J_116
  have hE := hRES
  unfold x_duplicate at hE
  refine lv_aload_n hx hb dX11_duplicate_0 rfl (lv_at hl 0 rfl) ?_
  refine va_get (D := D) (ci := 11) (v := .ref (mq 53)) (C := RX11) (T := TX11) (N := 74) hx hb ha inlX11 hown hK hP 0 mw_at0 rfl 53 (by decide) (ha _ kf_X11_127) (fun _ h9 => h9) rfl dX11_duplicate_1 ?_
  refine lv_iload_n hx hb dX11_duplicate_4 rfl (lv_at hl 1 rfl) ?_
  refine lv_dup2_11 hx hb dX11_duplicate_5 rfl rfl ?_
  have hin_32 : vp_in f 4 := vpi_of (by omega) (by omega)
  refine va_iald hx hb hK hP 35 0 mw_at53 rfl hin_32 dX11_duplicate_6 ?_
  refine lv_topi (fun x_33 ex_33 => ?_)
  have hE := bd_at ex_33 hE
  have u_x_33 := congrArg Int32.toInt ex_33
  refine lv_iconst (v := 1) hx hb dX11_duplicate_7 (by decide) ?_
  refine lv_iadd hx hb dX11_duplicate_8 ?_
  refine lv_topi (fun x_34 ex_34 => ?_)
  have hE := bd_at ex_34 hE
  have hin_35 : vp_in f 4 := vpi_of (by omega) (by omega)
  refine va_iast hx hb hK hP hD hS 35 0 mw_at53 rfl hin_35 dX11_duplicate_9 (fun H locs hP hD hS => ?_)
  have hP : va_P D vwCl (mw cI cZ h0 mq mi (va_up ma 53 (upd (ma 53) f.toNatClampNeg x_34))) H := mwP_53 hP
  have hD : va_D A (mw cI cZ h0 mq mi (va_up ma 53 (upd (ma 53) f.toNatClampNeg x_34))) := mwD_53 hD
  generalize hma_36 : va_up ma 53 (upd (ma 53) f.toNatClampNeg x_34) = ma_36 at hP hD
  have hI : MB mi ma_36 := by rw [← hma_36]; exact MBa_dup hI
  have hFA : ∀ k, k ∉ ([53, 47, 68, 54, 58, 63, 48, 67, 55, 72, 56, 31, 7, 8, 9, 59, 69, 46, 70, 61] : List Nat) → ma_36 k = ma0 k := fun k hk => by rw [← hma_36]; exact (va_up_ne _ _ (fun e => hk (by rw [e]; decide))).trans (hFA k hk)
  have hE := bs_at hma_36 hE
  refine lv_aload_n hx hb dX11_duplicate_10 rfl (lv_at hl 0 rfl) ?_
  refine va_get (D := D) (ci := 11) (v := .ref (mq 54)) (C := RX11) (T := TX11) (N := 74) hx hb ha inlX11 hown hK hP 0 mw_at0 rfl 54 (by decide) (ha _ kf_X11_130) (fun _ h9 => h9) rfl dX11_duplicate_11 ?_
  refine lv_iload_n hx hb dX11_duplicate_14 rfl (lv_at hl 1 rfl) ?_
  have hin_37 : vp_in f 4 := vpi_of (by omega) (by omega)
  refine va_zald hx hb hK hP 36 2 mw_at54 rfl hin_37 dX11_duplicate_15 ?_
  refine lv_topi (fun x_38 ex_38 => ?_)
  have hE := bd_at ex_38 hE
  have u_x_38 := congrArg Int32.toInt ex_38
  refine lv_if_eq (tgt := 45) hx hb dX11_duplicate_16 (by decide) (fun c_39 => ?_) (fun c_39 => ?_)
  · have t_c_39 := congrArg Int32.toInt c_39
    have hE := hE.trans (if_pos c_39)
    refine lv_aload_n hx hb dX11_duplicate_45 rfl (lv_at hl 0 rfl) ?_
    refine va_get (D := D) (ci := 11) (v := .ref (mq 53)) (C := RX11) (T := TX11) (N := 74) hx hb ha inlX11 hown hK hP 0 mw_at0 rfl 53 (by decide) (ha _ kf_X11_127) (fun _ h9 => h9) rfl dX11_duplicate_46 ?_
    refine lv_iload_n hx hb dX11_duplicate_49 rfl (lv_at hl 1 rfl) ?_
    have hin_40 : vp_in f 4 := vpi_of (by omega) (by omega)
    refine va_iald hx hb hK hP 35 0 mw_at53 rfl hin_40 dX11_duplicate_50 ?_
    refine lv_topi (fun x_41 ex_41 => ?_)
    have hE := bd_at ex_41 hE
    have u_x_41 := congrArg Int32.toInt ex_41
    refine lv_iconst (v := 3) hx hb dX11_duplicate_51 (by decide) ?_
    refine lv_icmp_ne (tgt := 79) hx hb dX11_duplicate_52 (by decide) (fun c_42 => ?_) (fun c_42 => ?_)
    · have t_c_42 := mt Int32.toInt_inj.mp c_42
      have hE := hE.trans (if_neg c_42)
      exact W.vret hx hb hr (fun t ht hW => ⟨⟨(), rfl, trivial, ⟨mi, ma_36, ⟨⟨hI, fun k hk => (hFI k hk).trans (by rw [hmi0]), fun k hk => (hFA k hk).trans (by rw [hma0])⟩, by rw [← hRES, hE], by rw [← hRES, hE]⟩, by rw [ht]; exact hP, va_K.moved hW.alike hK, hD⟩⟩, hS.F ht⟩) hS.2.2 dX11_duplicate_79
    · have t_c_42 := congrArg Int32.toInt c_42
      have hE := hE.trans (if_pos c_42)
      refine lv_aload_n hx hb dX11_duplicate_55 rfl (lv_at hl 0 rfl) ?_
      refine va_get (D := D) (ci := 11) (v := .ref (mq 42)) (C := RX11) (T := TX11) (N := 74) hx hb ha inlX11 hown hK hP 0 mw_at0 rfl 42 (by decide) (ha _ kf_X11_94) (fun _ h9 => h9) rfl dX11_duplicate_56 ?_
      refine lv_iload_n hx hb dX11_duplicate_59 rfl (lv_at hl 1 rfl) ?_
      have hin_43 : vp_in f 4 := vpi_of (by omega) (by omega)
      refine va_iald hx hb hK hP 24 0 mw_at42 rfl hin_43 dX11_duplicate_60 ?_
      refine lv_topi (fun x_44 ex_44 => ?_)
      have hE := bd_at ex_44 hE
      have u_x_44 := congrArg Int32.toInt ex_44
      refine lv_if_eq (tgt := 80) hx hb dX11_duplicate_61 (by decide) (fun c_45 => ?_) (fun c_45 => ?_)
      · have t_c_45 := congrArg Int32.toInt c_45
        have hE := hE.trans (if_pos c_45)
        refine lv_aload_n hx hb dX11_duplicate_80 rfl (lv_at hl 0 rfl) ?_
        refine va_get (D := D) (ci := 11) (v := .ref (mq 54)) (C := RX11) (T := TX11) (N := 74) hx hb ha inlX11 hown hK hP 0 mw_at0 rfl 54 (by decide) (ha _ kf_X11_130) (fun _ h9 => h9) rfl dX11_duplicate_81 ?_
        refine lv_iload_n hx hb dX11_duplicate_84 rfl (lv_at hl 1 rfl) ?_
        refine lv_iconst (v := 1) hx hb dX11_duplicate_85 (by decide) ?_
        have hin_46 : vp_in f 4 := vpi_of (by omega) (by omega)
        refine va_zast hx hb hK hP hD hS 36 2 mw_at54 rfl hin_46 dX11_duplicate_86 (fun H locs hP hD hS => ?_)
        have hP : va_P D vwCl (mw cI cZ h0 mq mi (va_up ma_36 54 (upd (ma_36 54) f.toNatClampNeg (vp_nar .boolean (1 : Int32))))) H := mwP_54 hP
        have hD : va_D A (mw cI cZ h0 mq mi (va_up ma_36 54 (upd (ma_36 54) f.toNatClampNeg (vp_nar .boolean (1 : Int32))))) := mwD_54 hD
        generalize hma_47 : va_up ma_36 54 (upd (ma_36 54) f.toNatClampNeg (vp_nar .boolean (1 : Int32))) = ma_47 at hP hD
        have hI : MB mi ma_47 := by rw [← hma_47]; exact MBa_recovers hI
        have hFA : ∀ k, k ∉ ([53, 47, 68, 54, 58, 63, 48, 67, 55, 72, 56, 31, 7, 8, 9, 59, 69, 46, 70, 61] : List Nat) → ma_47 k = ma0 k := fun k hk => by rw [← hma_47]; exact (va_up_ne _ _ (fun e => hk (by rw [e]; decide))).trans (hFA k hk)
        have hE := bs_at hma_47 hE
        refine lv_aload_n hx hb dX11_duplicate_87 rfl (lv_at hl 0 rfl) ?_
        refine va_get (D := D) (ci := 11) (v := .ref (mq 58)) (C := RX11) (T := TX11) (N := 74) hx hb ha inlX11 hown hK hP 0 mw_at0 rfl 58 (by decide) (ha _ kf_X11_142) (fun _ h9 => h9) rfl dX11_duplicate_88 ?_
        refine lv_iload_n hx hb dX11_duplicate_91 rfl (lv_at hl 1 rfl) ?_
        refine lv_dup2_11 hx hb dX11_duplicate_92 rfl rfl ?_
        have hin_48 : vp_in f 4 := vpi_of (by omega) (by omega)
        refine va_iald hx hb hK hP 40 0 mw_at58 rfl hin_48 dX11_duplicate_93 ?_
        refine lv_topi (fun x_49 ex_49 => ?_)
        have hE := bd_at ex_49 hE
        have u_x_49 := congrArg Int32.toInt ex_49
        refine lv_iconst (v := 1) hx hb dX11_duplicate_94 (by decide) ?_
        refine lv_iadd hx hb dX11_duplicate_95 ?_
        refine lv_topi (fun x_50 ex_50 => ?_)
        have hE := bd_at ex_50 hE
        have hin_51 : vp_in f 4 := vpi_of (by omega) (by omega)
        refine va_iast hx hb hK hP hD hS 40 0 mw_at58 rfl hin_51 dX11_duplicate_96 (fun H locs hP hD hS => ?_)
        have hP : va_P D vwCl (mw cI cZ h0 mq mi (va_up ma_47 58 (upd (ma_47 58) f.toNatClampNeg x_50))) H := mwP_58 hP
        have hD : va_D A (mw cI cZ h0 mq mi (va_up ma_47 58 (upd (ma_47 58) f.toNatClampNeg x_50))) := mwD_58 hD
        generalize hma_52 : va_up ma_47 58 (upd (ma_47 58) f.toNatClampNeg x_50) = ma_52 at hP hD
        have hI : MB mi ma_52 := by rw [← hma_52]; exact MBa_recoveries hI
        have hFA : ∀ k, k ∉ ([53, 47, 68, 54, 58, 63, 48, 67, 55, 72, 56, 31, 7, 8, 9, 59, 69, 46, 70, 61] : List Nat) → ma_52 k = ma0 k := fun k hk => by rw [← hma_52]; exact (va_up_ne _ _ (fun e => hk (by rw [e]; decide))).trans (hFA k hk)
        have hE := bs_at hma_52 hE
        refine lv_aload_n hx hb dX11_duplicate_97 rfl (lv_at hl 0 rfl) ?_
        refine lv_iload_n hx hb dX11_duplicate_98 rfl (lv_at hl 1 rfl) ?_
        have hFc := va_freeW hD hS hA
        refine va_callv (va_runV (As := [.int f]) (rest := []) ⟨hx, hb, hml, hown, ha⟩ (m_loses l D cI cJ cZ cO _ h0 mq mi ma_52 ph cl f hI hf0 hf4) (cwV 1 ha (gaV kl_X11_304 km_X11_loses ks_X11_loses kz_X11 kd_X11_loses) rfl rfl rfl (by decide +kernel) ⟨Nat.le_of_ble_eq_true rfl, Nat.le_of_ble_eq_true rfl⟩) ⟨pw_blind, va_recv hK hP (ci := 11) (q0 := 0) rfl rfl, fun U hU hW => ⟨rfl, pw_start hU hW hP hK hD hN⟩⟩ rfl rfl hl.1 rfl (lv_room (Nat.le_of_ble_eq_true rfl)) dX11_duplicate_99 ⟨Nat.le_of_ble_eq_true rfl, Nat.le_of_ble_eq_true rfl⟩) hS (fun q _ h => hFc q h) hFc (fun u t H1 locs ht hvm hw hB hz1 hk1 hS => ?_)
        obtain ⟨mi_54, ma_55, ⟨hf_56, hX1, hX2⟩, hP, hK1, hD1⟩ := hB
        have hE := bc_atv hX1 hX2 hE
        rw [ht] at hP
        have hD := hD1.weaken (fun k q _ h => hFc q.1 h)
        clear hD1
        generalize H1 = H at hP hS ⊢
        refine W.widen (k := 0) (n := 0) (Nat.le_refl _) (Nat.le_refl _) ?_
        have hI := hf_56.1
        have hFI : ∀ k, k ∉ ([26, 30, 28, 27, 6, 5] : List Nat) → mi_54 k = mi0 k := fun k hk => (hf_56.2.1 k (fun h => hk (by revert h; exact sub_of (by decide) k))).trans (hFI k hk)
        have hFA : ∀ k, k ∉ ([53, 47, 68, 54, 58, 63, 48, 67, 55, 72, 56, 31, 7, 8, 9, 59, 69, 46, 70, 61] : List Nat) → ma_55 k = ma0 k := fun k hk => (hf_56.2.2 k (fun h => hk (by revert h; exact sub_of (by decide) k))).trans (hFA k hk)
        refine lv_aload_n hx hb dX11_duplicate_102 rfl (lv_at hl 0 rfl) ?_
        refine va_get (D := D) (ci := 11) (v := .ref (mq 55)) (C := RX11) (T := TX11) (N := 74) hx hb ha inlX11 hown hK hP 0 mw_at0 rfl 55 (by decide) (ha _ kf_X11_133) (fun _ h9 => h9) rfl dX11_duplicate_103 ?_
        refine lv_iload_n hx hb dX11_duplicate_106 rfl (lv_at hl 1 rfl) ?_
        refine lv_aload_n hx hb dX11_duplicate_107 rfl (lv_at hl 0 rfl) ?_
        refine va_get (D := D) (ci := 11) (v := .ref (mq 46)) (C := RX11) (T := TX11) (N := 74) hx hb ha inlX11 hown hK hP 0 mw_at0 rfl 46 (by decide) (ha _ kf_X11_106) (fun _ h9 => h9) rfl dX11_duplicate_108 ?_
        refine lv_iload_n hx hb dX11_duplicate_111 rfl (lv_at hl 1 rfl) ?_
        have hin_57 : vp_in f 4 := vpi_of (by omega) (by omega)
        refine va_iald hx hb hK hP 28 0 mw_at46 rfl hin_57 dX11_duplicate_112 ?_
        refine lv_topi (fun x_58 ex_58 => ?_)
        have hE := bd_at ex_58 hE
        have u_x_58 := congrArg Int32.toInt ex_58
        have r_x_58 := rg_ld (MB_high hI) hin_57 ex_58
        have hin_59 : vp_in f 4 := vpi_of (by omega) (by omega)
        refine va_iast hx hb hK hP hD hS 37 0 mw_at55 rfl hin_59 dX11_duplicate_113 (fun H locs hP hD hS => ?_)
        have hP : va_P D vwCl (mw cI cZ h0 mq mi_54 (va_up ma_55 55 (upd (ma_55 55) f.toNatClampNeg x_58))) H := mwP_55 hP
        have hD : va_D A (mw cI cZ h0 mq mi_54 (va_up ma_55 55 (upd (ma_55 55) f.toNatClampNeg x_58))) := mwD_55 hD
        generalize hma_60 : va_up ma_55 55 (upd (ma_55 55) f.toNatClampNeg x_58) = ma_60 at hP hD
        have hI : MB mi_54 ma_60 := by rw [← hma_60]; exact MBa_recover hI (by omega) (by omega)
        have hFA : ∀ k, k ∉ ([53, 47, 68, 54, 58, 63, 48, 67, 55, 72, 56, 31, 7, 8, 9, 59, 69, 46, 70, 61] : List Nat) → ma_60 k = ma0 k := fun k hk => by rw [← hma_60]; exact (va_up_ne _ _ (fun e => hk (by rw [e]; decide))).trans (hFA k hk)
        have hE := bs_at hma_60 hE
        refine lv_iconst (v := 0) hx hb dX11_duplicate_114 (by decide) ?_
        refine lv_istore_n (lv' := [(2, .int 0), (0, .ref h0), (1, .int f)]) hx hb dX11_duplicate_115 rfl hl (by decide) rfl (fun ls hl => ?_)
        exact J_116 513 mi_54 ma_60 (0 : Int32) _ _ hP hD hS hI hFI hFA hE (by omega) _ (lv_sub hl [1, 2, 0] rfl) (by omega)
      · have t_c_45 := mt Int32.toInt_inj.mp c_45
        have hE := hE.trans (if_neg c_45)
        refine lv_aload_n hx hb dX11_duplicate_64 rfl (lv_at hl 0 rfl) ?_
        refine va_get (D := D) (ci := 11) (v := .ref (mq 44)) (C := RX11) (T := TX11) (N := 74) hx hb ha inlX11 hown hK hP 0 mw_at0 rfl 44 (by decide) (ha _ kf_X11_100) (fun _ h9 => h9) rfl dX11_duplicate_65 ?_
        refine lv_iload_n hx hb dX11_duplicate_68 rfl (lv_at hl 1 rfl) ?_
        have hin_61 : vp_in f 4 := vpi_of (by omega) (by omega)
        refine va_iald hx hb hK hP 26 0 mw_at44 rfl hin_61 dX11_duplicate_69 ?_
        refine lv_topi (fun x_62 ex_62 => ?_)
        have hE := bd_at ex_62 hE
        have u_x_62 := congrArg Int32.toInt ex_62
        have r_x_62 := rg_ld (MB_una hI) hin_61 ex_62
        have z_x_62 := congrArg Int32.toInt (congrFun (hFA 44 (by decide)) f.toNatClampNeg)
        refine lv_aload_n hx hb dX11_duplicate_70 rfl (lv_at hl 0 rfl) ?_
        refine va_get (D := D) (ci := 11) (v := .ref (mq 55)) (C := RX11) (T := TX11) (N := 74) hx hb ha inlX11 hown hK hP 0 mw_at0 rfl 55 (by decide) (ha _ kf_X11_133) (fun _ h9 => h9) rfl dX11_duplicate_71 ?_
        refine lv_iload_n hx hb dX11_duplicate_74 rfl (lv_at hl 1 rfl) ?_
        have hin_63 : vp_in f 4 := vpi_of (by omega) (by omega)
        refine va_iald hx hb hK hP 37 0 mw_at55 rfl hin_63 dX11_duplicate_75 ?_
        refine lv_topi (fun x_64 ex_64 => ?_)
        have hE := bd_at ex_64 hE
        have u_x_64 := congrArg Int32.toInt ex_64
        have r_x_64 := rg_ld (MB_recover hI) hin_63 ex_64
        refine lv_icmp_ge (tgt := 80) hx hb dX11_duplicate_76 (by decide) (fun c_65 => ?_) (fun c_65 => ?_)
        · have t_c_65 := Int32.le_iff_toInt_le.mp c_65
          have hE := hE.trans (if_pos c_65)
          refine lv_aload_n hx hb dX11_duplicate_80 rfl (lv_at hl 0 rfl) ?_
          refine va_get (D := D) (ci := 11) (v := .ref (mq 54)) (C := RX11) (T := TX11) (N := 74) hx hb ha inlX11 hown hK hP 0 mw_at0 rfl 54 (by decide) (ha _ kf_X11_130) (fun _ h9 => h9) rfl dX11_duplicate_81 ?_
          refine lv_iload_n hx hb dX11_duplicate_84 rfl (lv_at hl 1 rfl) ?_
          refine lv_iconst (v := 1) hx hb dX11_duplicate_85 (by decide) ?_
          have hin_66 : vp_in f 4 := vpi_of (by omega) (by omega)
          refine va_zast hx hb hK hP hD hS 36 2 mw_at54 rfl hin_66 dX11_duplicate_86 (fun H locs hP hD hS => ?_)
          have hP : va_P D vwCl (mw cI cZ h0 mq mi (va_up ma_36 54 (upd (ma_36 54) f.toNatClampNeg (vp_nar .boolean (1 : Int32))))) H := mwP_54 hP
          have hD : va_D A (mw cI cZ h0 mq mi (va_up ma_36 54 (upd (ma_36 54) f.toNatClampNeg (vp_nar .boolean (1 : Int32))))) := mwD_54 hD
          generalize hma_67 : va_up ma_36 54 (upd (ma_36 54) f.toNatClampNeg (vp_nar .boolean (1 : Int32))) = ma_67 at hP hD
          have hI : MB mi ma_67 := by rw [← hma_67]; exact MBa_recovers hI
          have hFA : ∀ k, k ∉ ([53, 47, 68, 54, 58, 63, 48, 67, 55, 72, 56, 31, 7, 8, 9, 59, 69, 46, 70, 61] : List Nat) → ma_67 k = ma0 k := fun k hk => by rw [← hma_67]; exact (va_up_ne _ _ (fun e => hk (by rw [e]; decide))).trans (hFA k hk)
          have hE := bs_at hma_67 hE
          refine lv_aload_n hx hb dX11_duplicate_87 rfl (lv_at hl 0 rfl) ?_
          refine va_get (D := D) (ci := 11) (v := .ref (mq 58)) (C := RX11) (T := TX11) (N := 74) hx hb ha inlX11 hown hK hP 0 mw_at0 rfl 58 (by decide) (ha _ kf_X11_142) (fun _ h9 => h9) rfl dX11_duplicate_88 ?_
          refine lv_iload_n hx hb dX11_duplicate_91 rfl (lv_at hl 1 rfl) ?_
          refine lv_dup2_11 hx hb dX11_duplicate_92 rfl rfl ?_
          have hin_68 : vp_in f 4 := vpi_of (by omega) (by omega)
          refine va_iald hx hb hK hP 40 0 mw_at58 rfl hin_68 dX11_duplicate_93 ?_
          refine lv_topi (fun x_69 ex_69 => ?_)
          have hE := bd_at ex_69 hE
          have u_x_69 := congrArg Int32.toInt ex_69
          refine lv_iconst (v := 1) hx hb dX11_duplicate_94 (by decide) ?_
          refine lv_iadd hx hb dX11_duplicate_95 ?_
          refine lv_topi (fun x_70 ex_70 => ?_)
          have hE := bd_at ex_70 hE
          have hin_71 : vp_in f 4 := vpi_of (by omega) (by omega)
          refine va_iast hx hb hK hP hD hS 40 0 mw_at58 rfl hin_71 dX11_duplicate_96 (fun H locs hP hD hS => ?_)
          have hP : va_P D vwCl (mw cI cZ h0 mq mi (va_up ma_67 58 (upd (ma_67 58) f.toNatClampNeg x_70))) H := mwP_58 hP
          have hD : va_D A (mw cI cZ h0 mq mi (va_up ma_67 58 (upd (ma_67 58) f.toNatClampNeg x_70))) := mwD_58 hD
          generalize hma_72 : va_up ma_67 58 (upd (ma_67 58) f.toNatClampNeg x_70) = ma_72 at hP hD
          have hI : MB mi ma_72 := by rw [← hma_72]; exact MBa_recoveries hI
          have hFA : ∀ k, k ∉ ([53, 47, 68, 54, 58, 63, 48, 67, 55, 72, 56, 31, 7, 8, 9, 59, 69, 46, 70, 61] : List Nat) → ma_72 k = ma0 k := fun k hk => by rw [← hma_72]; exact (va_up_ne _ _ (fun e => hk (by rw [e]; decide))).trans (hFA k hk)
          have hE := bs_at hma_72 hE
          refine lv_aload_n hx hb dX11_duplicate_97 rfl (lv_at hl 0 rfl) ?_
          refine lv_iload_n hx hb dX11_duplicate_98 rfl (lv_at hl 1 rfl) ?_
          have hFc := va_freeW hD hS hA
          refine va_callv (va_runV (As := [.int f]) (rest := []) ⟨hx, hb, hml, hown, ha⟩ (m_loses l D cI cJ cZ cO _ h0 mq mi ma_72 ph cl f hI hf0 hf4) (cwV 1 ha (gaV kl_X11_304 km_X11_loses ks_X11_loses kz_X11 kd_X11_loses) rfl rfl rfl (by decide +kernel) ⟨Nat.le_of_ble_eq_true rfl, Nat.le_of_ble_eq_true rfl⟩) ⟨pw_blind, va_recv hK hP (ci := 11) (q0 := 0) rfl rfl, fun U hU hW => ⟨rfl, pw_start hU hW hP hK hD hN⟩⟩ rfl rfl hl.1 rfl (lv_room (Nat.le_of_ble_eq_true rfl)) dX11_duplicate_99 ⟨Nat.le_of_ble_eq_true rfl, Nat.le_of_ble_eq_true rfl⟩) hS (fun q _ h => hFc q h) hFc (fun u t H1 locs ht hvm hw hB hz1 hk1 hS => ?_)
          obtain ⟨mi_74, ma_75, ⟨hf_76, hX1, hX2⟩, hP, hK1, hD1⟩ := hB
          have hE := bc_atv hX1 hX2 hE
          rw [ht] at hP
          have hD := hD1.weaken (fun k q _ h => hFc q.1 h)
          clear hD1
          generalize H1 = H at hP hS ⊢
          refine W.widen (k := 0) (n := 0) (Nat.le_refl _) (Nat.le_refl _) ?_
          have hI := hf_76.1
          have hFI : ∀ k, k ∉ ([26, 30, 28, 27, 6, 5] : List Nat) → mi_74 k = mi0 k := fun k hk => (hf_76.2.1 k (fun h => hk (by revert h; exact sub_of (by decide) k))).trans (hFI k hk)
          have hFA : ∀ k, k ∉ ([53, 47, 68, 54, 58, 63, 48, 67, 55, 72, 56, 31, 7, 8, 9, 59, 69, 46, 70, 61] : List Nat) → ma_75 k = ma0 k := fun k hk => (hf_76.2.2 k (fun h => hk (by revert h; exact sub_of (by decide) k))).trans (hFA k hk)
          refine lv_aload_n hx hb dX11_duplicate_102 rfl (lv_at hl 0 rfl) ?_
          refine va_get (D := D) (ci := 11) (v := .ref (mq 55)) (C := RX11) (T := TX11) (N := 74) hx hb ha inlX11 hown hK hP 0 mw_at0 rfl 55 (by decide) (ha _ kf_X11_133) (fun _ h9 => h9) rfl dX11_duplicate_103 ?_
          refine lv_iload_n hx hb dX11_duplicate_106 rfl (lv_at hl 1 rfl) ?_
          refine lv_aload_n hx hb dX11_duplicate_107 rfl (lv_at hl 0 rfl) ?_
          refine va_get (D := D) (ci := 11) (v := .ref (mq 46)) (C := RX11) (T := TX11) (N := 74) hx hb ha inlX11 hown hK hP 0 mw_at0 rfl 46 (by decide) (ha _ kf_X11_106) (fun _ h9 => h9) rfl dX11_duplicate_108 ?_
          refine lv_iload_n hx hb dX11_duplicate_111 rfl (lv_at hl 1 rfl) ?_
          have hin_77 : vp_in f 4 := vpi_of (by omega) (by omega)
          refine va_iald hx hb hK hP 28 0 mw_at46 rfl hin_77 dX11_duplicate_112 ?_
          refine lv_topi (fun x_78 ex_78 => ?_)
          have hE := bd_at ex_78 hE
          have u_x_78 := congrArg Int32.toInt ex_78
          have r_x_78 := rg_ld (MB_high hI) hin_77 ex_78
          have hin_79 : vp_in f 4 := vpi_of (by omega) (by omega)
          refine va_iast hx hb hK hP hD hS 37 0 mw_at55 rfl hin_79 dX11_duplicate_113 (fun H locs hP hD hS => ?_)
          have hP : va_P D vwCl (mw cI cZ h0 mq mi_74 (va_up ma_75 55 (upd (ma_75 55) f.toNatClampNeg x_78))) H := mwP_55 hP
          have hD : va_D A (mw cI cZ h0 mq mi_74 (va_up ma_75 55 (upd (ma_75 55) f.toNatClampNeg x_78))) := mwD_55 hD
          generalize hma_80 : va_up ma_75 55 (upd (ma_75 55) f.toNatClampNeg x_78) = ma_80 at hP hD
          have hI : MB mi_74 ma_80 := by rw [← hma_80]; exact MBa_recover hI (by omega) (by omega)
          have hFA : ∀ k, k ∉ ([53, 47, 68, 54, 58, 63, 48, 67, 55, 72, 56, 31, 7, 8, 9, 59, 69, 46, 70, 61] : List Nat) → ma_80 k = ma0 k := fun k hk => by rw [← hma_80]; exact (va_up_ne _ _ (fun e => hk (by rw [e]; decide))).trans (hFA k hk)
          have hE := bs_at hma_80 hE
          refine lv_iconst (v := 0) hx hb dX11_duplicate_114 (by decide) ?_
          refine lv_istore_n (lv' := [(2, .int 0), (0, .ref h0), (1, .int f)]) hx hb dX11_duplicate_115 rfl hl (by decide) rfl (fun ls hl => ?_)
          exact J_116 513 mi_74 ma_80 (0 : Int32) _ _ hP hD hS hI hFI hFA hE (by omega) _ (lv_sub hl [1, 2, 0] rfl) (by omega)
        · have t_c_65 := Int32.lt_iff_toInt_lt.mp (Int32.not_le.mp c_65)
          have hE := hE.trans (if_neg c_65)
          exact W.vret hx hb hr (fun t ht hW => ⟨⟨(), rfl, trivial, ⟨mi, ma_36, ⟨⟨hI, fun k hk => (hFI k hk).trans (by rw [hmi0]), fun k hk => (hFA k hk).trans (by rw [hma0])⟩, by rw [← hRES, hE], by rw [← hRES, hE]⟩, by rw [ht]; exact hP, va_K.moved hW.alike hK, hD⟩⟩, hS.F ht⟩) hS.2.2 dX11_duplicate_79
  · have t_c_39 := mt Int32.toInt_inj.mp c_39
    have hE := hE.trans (if_neg c_39)
    refine lv_aload_n hx hb dX11_duplicate_19 rfl (lv_at hl 0 rfl) ?_
    refine va_get (D := D) (ci := 11) (v := .ref (mq 42)) (C := RX11) (T := TX11) (N := 74) hx hb ha inlX11 hown hK hP 0 mw_at0 rfl 42 (by decide) (ha _ kf_X11_94) (fun _ h9 => h9) rfl dX11_duplicate_20 ?_
    refine lv_iload_n hx hb dX11_duplicate_23 rfl (lv_at hl 1 rfl) ?_
    have hin_81 : vp_in f 4 := vpi_of (by omega) (by omega)
    refine va_iald hx hb hK hP 24 0 mw_at42 rfl hin_81 dX11_duplicate_24 ?_
    refine lv_topi (fun x_82 ex_82 => ?_)
    have hE := bd_at ex_82 hE
    have u_x_82 := congrArg Int32.toInt ex_82
    refine lv_iconst (v := 3) hx hb dX11_duplicate_25 (by decide) ?_
    refine lv_icmp_eq (tgt := 44) hx hb dX11_duplicate_26 (by decide) (fun c_83 => ?_) (fun c_83 => ?_)
    · have t_c_83 := congrArg Int32.toInt c_83
      have hE := hE.trans (if_pos c_83)
      exact W.vret hx hb hr (fun t ht hW => ⟨⟨(), rfl, trivial, ⟨mi, ma_36, ⟨⟨hI, fun k hk => (hFI k hk).trans (by rw [hmi0]), fun k hk => (hFA k hk).trans (by rw [hma0])⟩, by rw [← hRES, hE], by rw [← hRES, hE]⟩, by rw [ht]; exact hP, va_K.moved hW.alike hK, hD⟩⟩, hS.F ht⟩) hS.2.2 dX11_duplicate_44
    · have t_c_83 := mt Int32.toInt_inj.mp c_83
      have hE := hE.trans (if_neg c_83)
      refine lv_aload_n hx hb dX11_duplicate_29 rfl (lv_at hl 0 rfl) ?_
      refine lv_iload_n hx hb dX11_duplicate_30 rfl (lv_at hl 1 rfl) ?_
      refine lv_aload_n hx hb dX11_duplicate_31 rfl (lv_at hl 0 rfl) ?_
      refine va_get (D := D) (ci := 11) (v := .ref (mq 47)) (C := RX11) (T := TX11) (N := 74) hx hb ha inlX11 hown hK hP 0 mw_at0 rfl 47 (by decide) (ha _ kf_X11_109) (fun _ h9 => h9) rfl dX11_duplicate_32 ?_
      refine lv_iload_n hx hb dX11_duplicate_35 rfl (lv_at hl 1 rfl) ?_
      have hin_84 : vp_in f 4 := vpi_of (by omega) (by omega)
      refine va_iald hx hb hK hP 29 0 mw_at47 rfl hin_84 dX11_duplicate_36 ?_
      refine lv_topi (fun x_85 ex_85 => ?_)
      have hE := bd_at ex_85 hE
      have u_x_85 := congrArg Int32.toInt ex_85
      have r_x_85 := rg_ld (MB_cwnd hI) hin_84 ex_85
      have g1_x_85 := ge1_ld (MB_ge1c hI) hf0 (by rw [hFI 32 (by decide), hmi0]; omega) ex_85
      have nz_x_85 : ¬ x_85 = 0 := nz_of g1_x_85
      refine lv_sipush (v := 1024) hx hb dX11_duplicate_37 (by decide) ?_
      refine lv_iadd hx hb dX11_duplicate_40 ?_
      refine lv_topi (fun x_86 ex_86 => ?_)
      have hE := bd_at ex_86 hE
      try have t_x_86 := ti_add ex_86 (by omega) (by omega)
      have hFc := va_freeW hD hS hA
      refine va_callv (va_runV (As := [.int f, .int x_86]) (rest := []) ⟨hx, hb, hml, hown, ha⟩ (m_opens l D cI cJ cZ cO _ h0 mq mi ma_36 ph cl f x_86 hI hf0 hf4 (by omega)) (cwV 2 ha (gaV kl_X11_295 km_X11_opens ks_X11_opens kz_X11 kd_X11_opens) rfl rfl rfl (by decide +kernel) ⟨Nat.le_of_ble_eq_true rfl, Nat.le_of_ble_eq_true rfl⟩) ⟨pw_blind, va_recv hK hP (ci := 11) (q0 := 0) rfl rfl, fun U hU hW => ⟨rfl, pw_start hU hW hP hK hD hN⟩⟩ rfl rfl hl.1 rfl (lv_room (Nat.le_of_ble_eq_true rfl)) dX11_duplicate_41 ⟨Nat.le_of_ble_eq_true rfl, Nat.le_of_ble_eq_true rfl⟩) hS (fun q _ h => hFc q h) hFc (fun u t H1 locs ht hvm hw hB hz1 hk1 hS => ?_)
      obtain ⟨mi_88, ma_89, ⟨hf_90, hX1, hX2⟩, hP, hK1, hD1⟩ := hB
      have hE := bc_atv hX1 hX2 hE
      rw [ht] at hP
      have hD := hD1.weaken (fun k q _ h => hFc q.1 h)
      clear hD1
      generalize H1 = H at hP hS ⊢
      refine W.widen (k := 0) (n := 0) (Nat.le_refl _) (Nat.le_refl _) ?_
      have hI := hf_90.1
      have hFI : ∀ k, k ∉ ([26, 30, 28, 27, 6, 5] : List Nat) → mi_88 k = mi0 k := fun k hk => (hf_90.2.1 k (fun h => hk (by revert h; exact sub_of (by decide) k))).trans (hFI k hk)
      have hFA : ∀ k, k ∉ ([53, 47, 68, 54, 58, 63, 48, 67, 55, 72, 56, 31, 7, 8, 9, 59, 69, 46, 70, 61] : List Nat) → ma_89 k = ma0 k := fun k hk => (hf_90.2.2 k (fun h => hk (by revert h; exact sub_of (by decide) k))).trans (hFA k hk)
      exact W.vret hx hb hr (fun t ht hW => ⟨⟨(), rfl, trivial, ⟨mi_88, ma_89, ⟨⟨hI, fun k hk => (hFI k hk).trans (by rw [hmi0]), fun k hk => (hFA k hk).trans (by rw [hma0])⟩, by rw [← hRES, hE], by rw [← hRES, hE]⟩, by rw [ht]; exact hP, va_K.moved hW.alike hK, hD⟩⟩, hS.F ht⟩) hS.2.2 dX11_duplicate_44

set_option maxRecDepth 100000 in
noncomputable def x_heard_255 (f : Int32) (kk : Int32) (mi : Nat → Int32) (ma : Nat → Nat → Int32) (i3 : Int32) (i4 : Int32) (i5 : Int32) : (Option XT) := (if i5 ≤ (0 : Int32) then (if i4 = (0 : Int32) then some (mi, ma, 0) else bc (x_duplicate f mi ma) (fun m1 a2 _ => some (m1, a2, 0))) else bc (x_moreTold f i3 i5 mi ma) (fun m4 a5 _ => some (m4, a5, 0)))
set_option maxRecDepth 100000 in
noncomputable def x_heard_224 (f : Int32) (kk : Int32) (mi : Nat → Int32) (ma : Nat → Nat → Int32) (i3 : Int32) (i4 : Int32) (i5 : Int32) : (Option XT) := bd (ma 60 f.toNatClampNeg) (fun v7 => (if v7 ≤ (0 : Int32) then x_heard_255 f kk mi ma i3 i4 i5 else bd (ma 45 f.toNatClampNeg) (fun v8 => bd (ma 44 f.toNatClampNeg) (fun v9 => (if v8 = v9 then bd (va_up ma 61 (upd (ma 61) f.toNatClampNeg ((-1) : Int32))) (fun a10 => x_heard_255 f kk mi a10 i3 i4 i5) else x_heard_255 f kk mi ma i3 i4 i5)))))
set_option maxRecDepth 100000 in
noncomputable def x_heard_143 (f : Int32) (kk : Int32) : Nat → (Nat → Int32) → (Nat → Nat → Int32) → Int32 → Int32 → Int32 → Int32 → (Option XT)
  | 0, mi, ma, _, _, _, _ => none
  | fu + 1, mi, ma, i3, i4, i5, i6 => (if (200 : Int32) ≤ i6 then (if i5 ≤ (0 : Int32) then x_heard_224 f kk mi ma i3 i4 i5 else bd (ma 45 f.toNatClampNeg) (fun v11 => bd (ma 44 f.toNatClampNeg) (fun v12 => (if v11 ≤ v12 then bd (va_up ma 61 (upd (ma 61) f.toNatClampNeg ((-1) : Int32))) (fun a13 => x_heard_224 f kk mi a13 i3 i4 i5) else bd (mi 4) (fun v14 => bd (ma 49 f.toNatClampNeg) (fun v15 => bd (v14 + v15) (fun v16 => bd (va_up ma 61 (upd (ma 61) f.toNatClampNeg v16)) (fun a17 => x_heard_224 f kk mi a17 i3 i4 i5)))))))) else bd ((200 : Int32) * f) (fun v18 => bd (v18 + i6) (fun v19 => bd ((200 : Int32) * kk) (fun v20 => bd (v20 + i6) (fun v21 => bd (ma 25 v21.toNatClampNeg) (fun v22 => bd (va_up ma 71 (upd (ma 71) v19.toNatClampNeg (vp_nar .boolean v22))) (fun a23 => bd (i6 + 1) (fun v24 => x_heard_143 f kk fu mi a23 i3 i4 i5 v24))))))))
set_option maxRecDepth 100000 in
noncomputable def x_heard_128 (f : Int32) (kk : Int32) (mi : Nat → Int32) (ma : Nat → Nat → Int32) (i3 : Int32) (i4 : Int32) (i5 : Int32) : (Option XT) := bd (ma 23 kk.toNatClampNeg) (fun v25 => bd (va_up ma 60 (upd (ma 60) f.toNatClampNeg v25)) (fun a26 => x_heard_143 f kk 201 mi a26 i3 i4 i5 (0 : Int32)))
set_option maxRecDepth 100000 in
noncomputable def x_heard_74 (f : Int32) (kk : Int32) (mi : Nat → Int32) (ma : Nat → Nat → Int32) (i3 : Int32) (i4 : Int32) : (Option XT) := bd (ma 44 f.toNatClampNeg) (fun v27 => bd (i3 - v27) (fun v28 => (if v28 ≤ (0 : Int32) then x_heard_128 f kk mi ma i3 i4 v28 else bc (x_measures f i3 mi ma) (fun m29 a30 _ => bd (va_up a30 44 (upd (a30 44) f.toNatClampNeg i3)) (fun a32 => bd (a32 45 f.toNatClampNeg) (fun v33 => (if i3 ≤ v33 then bd (a32 45 f.toNatClampNeg) (fun v34 => bd (va_up a32 45 (upd (a32 45) f.toNatClampNeg v34)) (fun a35 => x_heard_128 f kk m29 a35 i3 i4 v28)) else bd (va_up a32 45 (upd (a32 45) f.toNatClampNeg i3)) (fun a36 => x_heard_128 f kk m29 a36 i3 i4 v28))))))))
set_option maxRecDepth 100000 in
noncomputable def x_heard (f : Int32) (kk : Int32) (mi : Nat → Int32) (ma : Nat → Nat → Int32) : (Option XT) := ax (MB mi ma ∧ (0 ≤ f.toInt ∧ f.toInt < (mi 32).toInt) ∧ (0 ≤ kk.toInt ∧ kk.toInt < 6000)) (bd (ma 22 kk.toNatClampNeg) (fun v37 => bd (ma 44 f.toNatClampNeg) (fun v38 => (if v38 ≤ v37 then bd (ma 44 f.toNatClampNeg) (fun v39 => (if v37 = v39 then bd (ma 23 kk.toNatClampNeg) (fun v40 => bd (ma 60 f.toNatClampNeg) (fun v41 => (if v40 = v41 then bd (ma 45 f.toNatClampNeg) (fun v42 => bd (ma 44 f.toNatClampNeg) (fun v43 => (if v42 ≤ v43 then x_heard_74 f kk mi ma v37 (0 : Int32) else bd (ma 24 kk.toNatClampNeg) (fun v44 => (if v44 = (0 : Int32) then x_heard_74 f kk mi ma v37 (0 : Int32) else x_heard_74 f kk mi ma v37 (1 : Int32)))))) else x_heard_74 f kk mi ma v37 (0 : Int32)))) else x_heard_74 f kk mi ma v37 (0 : Int32))) else some (mi, ma, 0)))))
set_option maxHeartbeats 4000000 in
set_option maxRecDepth 100000 in
theorem m_heard (l : Launch) (D : va_G) (cI cJ cZ cO : ClassId) (sz : Nat) (h0 : Nat) (mq : Nat → Nat) (mi : Nat → Int32) (ma : Nat → Nat → Int32) (ph : Nat) (cl : Int) (f kk : Int32) (hI : MB mi ma) (hf0 : 0 ≤ f.toInt) (hf4 : f.toInt < 4) (hff : f.toInt < (mi 32).toInt) (hk0 : 0 ≤ kk.toInt) (hk1 : kk.toInt < 6000) : Met l yX11_heard (wa yX11_heard cX11_heard 7 none) ({ frames := 4, cells := 0, slots := 0, locals := 93 }) (va_Pc [.ref h0, .int f, .int kk] (pw_s D cI cJ cZ cO sz (mw cI cZ h0 mq mi ma))) (va_Qv (fun (_ : Unit) => True) (fun (_ : Unit) (t : State) => ∃ (mi2 : Nat → Int32) (ma2 : Nat → Nat → Int32), ((MB mi2 ma2 ∧ (∀ k, k ∉ ([26, 30, 28, 27, 6, 5] : List Nat) → mi2 k = mi k) ∧ (∀ k, k ∉ ([69, 51, 50, 52, 49, 44, 45, 60, 71, 61, 53, 47, 68, 67, 64, 65, 66, 54, 31, 7, 8, 9, 59, 46, 70, 72, 58, 63, 48, 55, 56] : List Nat) → ma2 k = ma k)) ∧ ∃ rr : Int32, (x_heard f kk mi ma) = some (mi2, ma2, rr)) ∧ pw_t D cI cJ cZ cO (va_A (mw cI cZ h0 mq mi ma) sz) (mw cI cZ h0 mq mi2 ma2) t) (va_A (mw cI cZ h0 mq mi ma) sz)) 0 0 (va_A (mw cI cZ h0 mq mi ma) sz) := by
  refine Met.ofW (cc := cX11_heard) (maxL := 7) (ret := none) (by decide) rfl ?_
  intro p e s m args below meth c s₁ B hml hv
  obtain ⟨rfl, hsz, hP, hK, hD0, hN⟩ := hv
  have hx := B.exec
  have hb := B.bytes
  have hr := B.returns
  have hts := atoms_spec (ws := (wa yX11_heard cX11_heard 7 none)) B.pre
  have ha : ∀ w ∈ wsL_law, w.before _ s = true := fun w h => hts w (List.mem_cons_of_mem _ h)
  have hown : s.vm.findClass RX11 = some m.cls := findClass_of_methodNamed B.named
  have hlocks := B.notSynchronized
  subst hsz
  have hD := hD0.self (sz := s.heap.size)
  generalize hAe : va_A (mw cI cZ h0 mq mi ma) s.heap.size = A at hD ⊢
  have hA : ∀ q : Nat, s.heap.size ≤ q → A q := fun q h => by rw [← hAe]; exact Or.inr h
  have hS : va_S A s.heap s.heap [] := va_S.rf
  have hP : va_P D vwCl (mw cI cZ h0 mq mi ma) s.heap := hP
  have hl := lv_entry ([.ref h0, .int f, .int kk]) (n := 7) (Nat.le_of_ble_eq_true rfl)
  rw [lg_entry_eq]
  generalize (lg_sl ([.ref h0, .int f, .int kk]) ++ List.replicate (7 - (lg_sl ([.ref h0, .int f, .int kk])).length) Slot.unset).toArray = ls at hl ⊢
  have hl : lv_has ls 7 [(0, .ref h0), (1, .int f), (2, .int kk)] := hl
  have kc_m1 := tk_m1
  have kc_0 := tk_0
  have kc_1 := tk_1
  have kc_200 := tk_200
  obtain ⟨mi0, hmi0⟩ : ∃ y, y = mi := ⟨_, rfl⟩
  obtain ⟨ma0, hma0⟩ : ∃ y, y = ma := ⟨_, rfl⟩
  have hFI : ∀ k, k ∉ ([26, 30, 28, 27, 6, 5] : List Nat) → mi k = mi0 k := fun k _ => by rw [hmi0]
  have hFA : ∀ k, k ∉ ([69, 51, 50, 52, 49, 44, 45, 60, 71, 61, 53, 47, 68, 67, 64, 65, 66, 54, 31, 7, 8, 9, 59, 46, 70, 72, 58, 63, 48, 55, 56] : List Nat) → ma k = ma0 k := fun k _ => by rw [hma0]
  obtain ⟨QP, hQP⟩ : ∃ y : State → Prop, y = (MQ below (va_Qv (fun (_ : Unit) => True) (fun (_ : Unit) (t : State) => ∃ (mi2 : Nat → Int32) (ma2 : Nat → Nat → Int32), ((MB mi2 ma2 ∧ (∀ k, k ∉ ([26, 30, 28, 27, 6, 5] : List Nat) → mi2 k = mi k) ∧ (∀ k, k ∉ ([69, 51, 50, 52, 49, 44, 45, 60, 71, 61, 53, 47, 68, 67, 64, 65, 66, 54, 31, 7, 8, 9, 59, 46, 70, 72, 58, 63, 48, 55, 56] : List Nat) → ma2 k = ma k)) ∧ ∃ rr : Int32, (x_heard f kk mi ma) = some (mi2, ma2, rr)) ∧ pw_t D cI cJ cZ cO A (mw cI cZ h0 mq mi2 ma2) t) A) #[(.ref h0 : Value), (.int f : Value), (.int kk : Value)] s 0 0 A) := ⟨_, rfl⟩
  obtain ⟨RES, hRES⟩ : ∃ y, y = (x_heard f kk mi ma) := ⟨_, rfl⟩
  have hfN : f.toNatClampNeg < 4 := in_lt (vpi_of (n := 4) hf0 (by omega))
  have hle := MB_le2n hI f.toNatClampNeg hfN
  have hlh := MB_le2h hI f.toNatClampNeg hfN
  have y44 : (ma0 44 f.toNatClampNeg).toInt = (ma 44 f.toNatClampNeg).toInt := by rw [hma0]
  have y45 := MB_nxt hI f.toNatClampNeg hfN
  have y44b := MB_una hI f.toNatClampNeg hfN
  have J_255 : ∀ (mi : Nat → Int32) (ma : Nat → Nat → Int32) (i3 : Int32) (i4 : Int32) (i5 : Int32) (H : Heap) (locs : List Loc), va_P D vwCl (mw cI cZ h0 mq mi ma) H → va_D A (mw cI cZ h0 mq mi ma) → va_S A s.heap H locs → MB mi ma → (∀ k, k ∉ ([26, 30, 28, 27, 6, 5] : List Nat) → mi k = mi0 k) → (∀ k, k ∉ ([69, 51, 50, 52, 49, 44, 45, 60, 71, 61, 53, 47, 68, 67, 64, 65, 66, 54, 31, 7, 8, 9, 59, 46, 70, 72, 58, 63, 48, 55, 56] : List Nat) → ma k = ma0 k) → RES = x_heard_255 f kk mi ma i3 i4 i5 → (0 ≤ i3.toInt ∧ i3.toInt ≤ 1000001 ∧ i5.toInt ≤ 1000001 ∧ (0 < i5.toInt → i3.toInt = (ma 44 f.toNatClampNeg).toInt) ∧ (i5.toInt ≤ 0 → ¬ i4 = 0 → (ma 44 f.toNatClampNeg).toInt < (ma 45 f.toNatClampNeg).toInt)) → ∀ (ls : Array Slot), lv_has ls 7 [(0, .ref h0), (1, .int f), (2, .int kk), (3, .int i3), (4, .int i4), (5, .int i5)] → W p l e ({ frames := 4, cells := 0, slots := 0, locals := 93 }) s m #[(.ref h0 : Value), (.int f : Value), (.int kk : Value)] below meth c H locs 0 0 QP (F0 m 255 ls []) := by
    intro mi ma i3 i4 i5 H locs hP hD hS hI hFI hFA hE hv ls hl
    have hfN : f.toNatClampNeg < 4 := in_lt (vpi_of (n := 4) hf0 (by omega))
    have hle := MB_le2n hI f.toNatClampNeg hfN
    have hlh := MB_le2h hI f.toNatClampNeg hfN
    rw [x_heard_255] at hE
    refine lv_iload hx hb dX11_heard_255 (lv_at hl 5 rfl) ?_
    refine lv_if_le (tgt := 271) hx hb dX11_heard_257 (by decide) (fun c_1 => ?_) (fun c_1 => ?_)
    · have t_c_1 := Int32.le_iff_toInt_le.mp c_1
      have hE := hE.trans (if_pos c_1)
      refine lv_iload hx hb dX11_heard_271 (lv_at hl 4 rfl) ?_
      refine lv_if_eq (tgt := 281) hx hb dX11_heard_273 (by decide) (fun c_2 => ?_) (fun c_2 => ?_)
      · have t_c_2 := congrArg Int32.toInt c_2
        have hE := hE.trans (if_pos c_2)
        rw [hQP]
        exact W.vret hx hb hr (fun t ht hW => ⟨⟨(), rfl, trivial, ⟨mi, ma, ⟨⟨hI, fun k hk => (hFI k hk).trans (by rw [hmi0]), fun k hk => (hFA k hk).trans (by rw [hma0])⟩, _, hRES.symm.trans hE⟩, by rw [ht]; exact hP, va_K.moved hW.alike hK, hD⟩⟩, hS.F ht⟩) hS.2.2 dX11_heard_281
      · have t_c_2 := mt Int32.toInt_inj.mp c_2
        have hE := hE.trans (if_neg c_2)
        refine lv_aload_n hx hb dX11_heard_276 rfl (lv_at hl 0 rfl) ?_
        refine lv_iload_n hx hb dX11_heard_277 rfl (lv_at hl 1 rfl) ?_
        have hFc := va_freeW hD hS hA
        refine va_callv (va_runV (As := [.int f]) (rest := []) ⟨hx, hb, hml, hown, ha⟩ (m_duplicate l D cI cJ cZ cO _ h0 mq mi ma ph cl f hI hf0 hf4 (by rw [hFI 32 (by decide), hmi0]; omega) (hv.2.2.2.2 (by omega) c_2)) (cwV 1 ha (gaV kl_X11_290 km_X11_duplicate ks_X11_duplicate kz_X11 kd_X11_duplicate) rfl rfl rfl (by decide +kernel) ⟨Nat.le_of_ble_eq_true rfl, Nat.le_of_ble_eq_true rfl⟩) ⟨pw_blind, va_recv hK hP (ci := 11) (q0 := 0) rfl rfl, fun U hU hW => ⟨rfl, pw_start hU hW hP hK hD hN⟩⟩ rfl rfl hl.1 rfl (lv_room (Nat.le_of_ble_eq_true rfl)) dX11_heard_278 ⟨Nat.le_of_ble_eq_true rfl, Nat.le_of_ble_eq_true rfl⟩) hS (fun q _ h => hFc q h) hFc (fun u t H1 locs ht hvm hw hB hz1 hk1 hS => ?_)
        obtain ⟨mi_4, ma_5, ⟨hf_6, hX1, hX2⟩, hP, hK1, hD1⟩ := hB
        have hE := bc_atv hX1 hX2 hE
        rw [ht] at hP
        have hD := hD1.weaken (fun k q _ h => hFc q.1 h)
        clear hD1
        generalize H1 = H at hP hS ⊢
        refine W.widen (k := 0) (n := 0) (Nat.le_refl _) (Nat.le_refl _) ?_
        have hI := hf_6.1
        have hFI : ∀ k, k ∉ ([26, 30, 28, 27, 6, 5] : List Nat) → mi_4 k = mi0 k := fun k hk => (hf_6.2.1 k (fun h => hk (by revert h; exact sub_of (by decide) k))).trans (hFI k hk)
        have hFA : ∀ k, k ∉ ([69, 51, 50, 52, 49, 44, 45, 60, 71, 61, 53, 47, 68, 67, 64, 65, 66, 54, 31, 7, 8, 9, 59, 46, 70, 72, 58, 63, 48, 55, 56] : List Nat) → ma_5 k = ma0 k := fun k hk => (hf_6.2.2 k (fun h => hk (by revert h; exact sub_of (by decide) k))).trans (hFA k hk)
        rw [hQP]
        exact W.vret hx hb hr (fun t ht hW => ⟨⟨(), rfl, trivial, ⟨mi_4, ma_5, ⟨⟨hI, fun k hk => (hFI k hk).trans (by rw [hmi0]), fun k hk => (hFA k hk).trans (by rw [hma0])⟩, _, hRES.symm.trans hE⟩, by rw [ht]; exact hP, va_K.moved hW.alike hK, hD⟩⟩, hS.F ht⟩) hS.2.2 dX11_heard_281
    · have t_c_1 := Int32.lt_iff_toInt_lt.mp (Int32.not_le.mp c_1)
      have hE := hE.trans (if_neg c_1)
      refine lv_aload_n hx hb dX11_heard_260 rfl (lv_at hl 0 rfl) ?_
      refine lv_iload_n hx hb dX11_heard_261 rfl (lv_at hl 1 rfl) ?_
      refine lv_iload_n hx hb dX11_heard_262 rfl (lv_at hl 3 rfl) ?_
      refine lv_iload hx hb dX11_heard_263 (lv_at hl 5 rfl) ?_
      have hFc := va_freeW hD hS hA
      refine va_callv (va_runV (As := [.int f, .int i3, .int i5]) (rest := []) ⟨hx, hb, hml, hown, ha⟩ (m_moreTold l D cI cJ cZ cO _ h0 mq mi ma ph cl f i3 i5 hI hf0 hf4 (by rw [hFI 32 (by decide), hmi0]; omega) (by have a9 := hv.2.2.2.1 (by omega); omega) (by omega) (by omega)) (cwV 3 ha (gaV kl_X11_286 km_X11_moreTold ks_X11_moreTold kz_X11 kd_X11_moreTold) rfl rfl rfl (by decide +kernel) ⟨Nat.le_of_ble_eq_true rfl, Nat.le_of_ble_eq_true rfl⟩) ⟨pw_blind, va_recv hK hP (ci := 11) (q0 := 0) rfl rfl, fun U hU hW => ⟨rfl, pw_start hU hW hP hK hD hN⟩⟩ rfl rfl hl.1 rfl (lv_room (Nat.le_of_ble_eq_true rfl)) dX11_heard_265 ⟨Nat.le_of_ble_eq_true rfl, Nat.le_of_ble_eq_true rfl⟩) hS (fun q _ h => hFc q h) hFc (fun u t H1 locs ht hvm hw hB hz1 hk1 hS => ?_)
      obtain ⟨mi_8, ma_9, ⟨hf_10, hX1, hX2⟩, hP, hK1, hD1⟩ := hB
      have hE := bc_atv hX1 hX2 hE
      rw [ht] at hP
      have hD := hD1.weaken (fun k q _ h => hFc q.1 h)
      clear hD1
      generalize H1 = H at hP hS ⊢
      refine W.widen (k := 0) (n := 0) (Nat.le_refl _) (Nat.le_refl _) ?_
      have hI := hf_10.1
      have hFI : ∀ k, k ∉ ([26, 30, 28, 27, 6, 5] : List Nat) → mi_8 k = mi0 k := fun k hk => (hf_10.2.1 k (fun h => hk (by revert h; exact sub_of (by decide) k))).trans (hFI k hk)
      have hFA : ∀ k, k ∉ ([69, 51, 50, 52, 49, 44, 45, 60, 71, 61, 53, 47, 68, 67, 64, 65, 66, 54, 31, 7, 8, 9, 59, 46, 70, 72, 58, 63, 48, 55, 56] : List Nat) → ma_9 k = ma0 k := fun k hk => (hf_10.2.2 k (fun h => hk (by revert h; exact sub_of (by decide) k))).trans (hFA k hk)
      refine lv_goto (tgt := 281) hx hb dX11_heard_268 (by decide) ?_
      rw [hQP]
      exact W.vret hx hb hr (fun t ht hW => ⟨⟨(), rfl, trivial, ⟨mi_8, ma_9, ⟨⟨hI, fun k hk => (hFI k hk).trans (by rw [hmi0]), fun k hk => (hFA k hk).trans (by rw [hma0])⟩, _, hRES.symm.trans hE⟩, by rw [ht]; exact hP, va_K.moved hW.alike hK, hD⟩⟩, hS.F ht⟩) hS.2.2 dX11_heard_281
  have J_224 : ∀ (mi : Nat → Int32) (ma : Nat → Nat → Int32) (i3 : Int32) (i4 : Int32) (i5 : Int32) (H : Heap) (locs : List Loc), va_P D vwCl (mw cI cZ h0 mq mi ma) H → va_D A (mw cI cZ h0 mq mi ma) → va_S A s.heap H locs → MB mi ma → (∀ k, k ∉ ([26, 30, 28, 27, 6, 5] : List Nat) → mi k = mi0 k) → (∀ k, k ∉ ([69, 51, 50, 52, 49, 44, 45, 60, 71, 61, 53, 47, 68, 67, 64, 65, 66, 54, 31, 7, 8, 9, 59, 46, 70, 72, 58, 63, 48, 55, 56] : List Nat) → ma k = ma0 k) → RES = x_heard_224 f kk mi ma i3 i4 i5 → (0 ≤ i3.toInt ∧ i3.toInt ≤ 1000001 ∧ i5.toInt ≤ 1000001 ∧ (0 < i5.toInt → i3.toInt = (ma 44 f.toNatClampNeg).toInt) ∧ (i5.toInt ≤ 0 → ¬ i4 = 0 → (ma 44 f.toNatClampNeg).toInt < (ma 45 f.toNatClampNeg).toInt)) → ∀ (ls : Array Slot), lv_has ls 7 [(0, .ref h0), (1, .int f), (2, .int kk), (3, .int i3), (4, .int i4), (5, .int i5)] → W p l e ({ frames := 4, cells := 0, slots := 0, locals := 93 }) s m #[(.ref h0 : Value), (.int f : Value), (.int kk : Value)] below meth c H locs 0 0 QP (F0 m 224 ls []) := by
    intro mi ma i3 i4 i5 H locs hP hD hS hI hFI hFA hE hv ls hl
    have hfN : f.toNatClampNeg < 4 := in_lt (vpi_of (n := 4) hf0 (by omega))
    have hle := MB_le2n hI f.toNatClampNeg hfN
    have hlh := MB_le2h hI f.toNatClampNeg hfN
    rw [x_heard_224] at hE
    refine lv_aload_n hx hb dX11_heard_224 rfl (lv_at hl 0 rfl) ?_
    refine va_get (D := D) (ci := 11) (v := .ref (mq 60)) (C := RX11) (T := TX11) (N := 74) hx hb ha inlX11 hown hK hP 0 mw_at0 rfl 60 (by decide) (ha _ kf_X11_148) (fun _ h9 => h9) rfl dX11_heard_225 ?_
    refine lv_iload_n hx hb dX11_heard_228 rfl (lv_at hl 1 rfl) ?_
    have hin_11 : vp_in f 4 := vpi_of (by omega) (by omega)
    refine va_iald hx hb hK hP 42 0 mw_at60 rfl hin_11 dX11_heard_229 ?_
    refine lv_topi (fun x_12 ex_12 => ?_)
    have hE := bd_at ex_12 hE
    have u_x_12 := congrArg Int32.toInt ex_12
    have r_x_12 := rg_ld (MB_w hI) hin_11 ex_12
    refine lv_if_le (tgt := 255) hx hb dX11_heard_230 (by decide) (fun c_13 => ?_) (fun c_13 => ?_)
    · have t_c_13 := Int32.le_iff_toInt_le.mp c_13
      have hE := hE.trans (if_pos c_13)
      exact J_255 mi ma i3 i4 i5 _ _ hP hD hS hI hFI hFA hE ⟨by omega, by omega, by omega, fun h9 => by have a9 := hv.2.2.2.1 h9; omega, fun h9 h8 => by have a9 := hv.2.2.2.2 h9 h8; omega⟩ _ (lv_sub hl [0, 1, 2, 3, 4, 5] rfl)
    · have t_c_13 := Int32.lt_iff_toInt_lt.mp (Int32.not_le.mp c_13)
      have hE := hE.trans (if_neg c_13)
      refine lv_aload_n hx hb dX11_heard_233 rfl (lv_at hl 0 rfl) ?_
      refine va_get (D := D) (ci := 11) (v := .ref (mq 45)) (C := RX11) (T := TX11) (N := 74) hx hb ha inlX11 hown hK hP 0 mw_at0 rfl 45 (by decide) (ha _ kf_X11_103) (fun _ h9 => h9) rfl dX11_heard_234 ?_
      refine lv_iload_n hx hb dX11_heard_237 rfl (lv_at hl 1 rfl) ?_
      have hin_14 : vp_in f 4 := vpi_of (by omega) (by omega)
      refine va_iald hx hb hK hP 27 0 mw_at45 rfl hin_14 dX11_heard_238 ?_
      refine lv_topi (fun x_15 ex_15 => ?_)
      have hE := bd_at ex_15 hE
      have u_x_15 := congrArg Int32.toInt ex_15
      have r_x_15 := rg_ld (MB_nxt hI) hin_14 ex_15
      refine lv_aload_n hx hb dX11_heard_239 rfl (lv_at hl 0 rfl) ?_
      refine va_get (D := D) (ci := 11) (v := .ref (mq 44)) (C := RX11) (T := TX11) (N := 74) hx hb ha inlX11 hown hK hP 0 mw_at0 rfl 44 (by decide) (ha _ kf_X11_100) (fun _ h9 => h9) rfl dX11_heard_240 ?_
      refine lv_iload_n hx hb dX11_heard_243 rfl (lv_at hl 1 rfl) ?_
      have hin_16 : vp_in f 4 := vpi_of (by omega) (by omega)
      refine va_iald hx hb hK hP 26 0 mw_at44 rfl hin_16 dX11_heard_244 ?_
      refine lv_topi (fun x_17 ex_17 => ?_)
      have hE := bd_at ex_17 hE
      have u_x_17 := congrArg Int32.toInt ex_17
      have r_x_17 := rg_ld (MB_una hI) hin_16 ex_17
      refine lv_icmp_ne (tgt := 255) hx hb dX11_heard_245 (by decide) (fun c_18 => ?_) (fun c_18 => ?_)
      · have t_c_18 := mt Int32.toInt_inj.mp c_18
        have hE := hE.trans (if_neg c_18)
        exact J_255 mi ma i3 i4 i5 _ _ hP hD hS hI hFI hFA hE ⟨by omega, by omega, by omega, fun h9 => by have a9 := hv.2.2.2.1 h9; omega, fun h9 h8 => by have a9 := hv.2.2.2.2 h9 h8; omega⟩ _ (lv_sub hl [0, 1, 2, 3, 4, 5] rfl)
      · have t_c_18 := congrArg Int32.toInt c_18
        have hE := hE.trans (if_pos c_18)
        refine lv_aload_n hx hb dX11_heard_248 rfl (lv_at hl 0 rfl) ?_
        refine va_get (D := D) (ci := 11) (v := .ref (mq 61)) (C := RX11) (T := TX11) (N := 74) hx hb ha inlX11 hown hK hP 0 mw_at0 rfl 61 (by decide) (ha _ kf_X11_151) (fun _ h9 => h9) rfl dX11_heard_249 ?_
        refine lv_iload_n hx hb dX11_heard_252 rfl (lv_at hl 1 rfl) ?_
        refine lv_iconst (v := (-1)) hx hb dX11_heard_253 (by decide) ?_
        have hin_19 : vp_in f 4 := vpi_of (by omega) (by omega)
        refine va_iast hx hb hK hP hD hS 43 0 mw_at61 rfl hin_19 dX11_heard_254 (fun H locs hP hD hS => ?_)
        have hP : va_P D vwCl (mw cI cZ h0 mq mi (va_up ma 61 (upd (ma 61) f.toNatClampNeg ((-1) : Int32)))) H := mwP_61 hP
        have hD : va_D A (mw cI cZ h0 mq mi (va_up ma 61 (upd (ma 61) f.toNatClampNeg ((-1) : Int32)))) := mwD_61 hD
        generalize hma_20 : va_up ma 61 (upd (ma 61) f.toNatClampNeg ((-1) : Int32)) = ma_20 at hP hD
        have hI : MB mi ma_20 := by rw [← hma_20]; exact MBa_timer hI
        have hFA : ∀ k, k ∉ ([69, 51, 50, 52, 49, 44, 45, 60, 71, 61, 53, 47, 68, 67, 64, 65, 66, 54, 31, 7, 8, 9, 59, 46, 70, 72, 58, 63, 48, 55, 56] : List Nat) → ma_20 k = ma0 k := fun k hk => by rw [← hma_20]; exact (va_up_ne _ _ (fun e => hk (by rw [e]; decide))).trans (hFA k hk)
        have hE := bs_at hma_20 hE
        have lk_44 : (ma_20 44 f.toNatClampNeg).toInt = (ma 44 f.toNatClampNeg).toInt := congrArg Int32.toInt (congrFun ((congrFun hma_20 44).symm) f.toNatClampNeg)
        have lk_45 : (ma_20 45 f.toNatClampNeg).toInt = (ma 45 f.toNatClampNeg).toInt := congrArg Int32.toInt (congrFun ((congrFun hma_20 45).symm) f.toNatClampNeg)
        exact J_255 mi ma_20 i3 i4 i5 _ _ hP hD hS hI hFI hFA hE ⟨by omega, by omega, by omega, fun h9 => by have a9 := hv.2.2.2.1 h9; omega, fun h9 h8 => by have a9 := hv.2.2.2.2 h9 h8; omega⟩ _ (lv_sub hl [0, 1, 2, 3, 4, 5] rfl)
  have J_143 : ∀ (n_143 : Nat), ∀ (mi : Nat → Int32) (ma : Nat → Nat → Int32) (i3 : Int32) (i4 : Int32) (i5 : Int32) (i6 : Int32) (H : Heap) (locs : List Loc), va_P D vwCl (mw cI cZ h0 mq mi ma) H → va_D A (mw cI cZ h0 mq mi ma) → va_S A s.heap H locs → MB mi ma → (∀ k, k ∉ ([26, 30, 28, 27, 6, 5] : List Nat) → mi k = mi0 k) → (∀ k, k ∉ ([69, 51, 50, 52, 49, 44, 45, 60, 71, 61, 53, 47, 68, 67, 64, 65, 66, 54, 31, 7, 8, 9, 59, 46, 70, 72, 58, 63, 48, 55, 56] : List Nat) → ma k = ma0 k) → RES = x_heard_143 f kk n_143 mi ma i3 i4 i5 i6 → ((0 ≤ i3.toInt ∧ i3.toInt ≤ 1000001 ∧ i5.toInt ≤ 1000001 ∧ (0 < i5.toInt → i3.toInt = (ma 44 f.toNatClampNeg).toInt) ∧ (i5.toInt ≤ 0 → ¬ i4 = 0 → (ma 44 f.toNatClampNeg).toInt < (ma 45 f.toNatClampNeg).toInt)) ∧ 0 ≤ i6.toInt) → ∀ (ls : Array Slot), lv_has ls 7 [(0, .ref h0), (1, .int f), (2, .int kk), (3, .int i3), (4, .int i4), (5, .int i5), (6, .int i6)] → ((200 - i6.toInt).toNat) < n_143 → W p l e ({ frames := 4, cells := 0, slots := 0, locals := 93 }) s m #[(.ref h0 : Value), (.int f : Value), (.int kk : Value)] below meth c H locs 0 0 QP (F0 m 143 ls []) := by
    intro n_143
    induction n_143 with
    | zero => intros; exact absurd ‹_ < 0› (Nat.not_lt_zero _)
    | succ n_143 ih_143 =>
      intro mi ma i3 i4 i5 i6 H locs hP hD hS hI hFI hFA hE hv ls hl hm
      have hfN : f.toNatClampNeg < 4 := in_lt (vpi_of (n := 4) hf0 (by omega))
      have hle := MB_le2n hI f.toNatClampNeg hfN
      have hlh := MB_le2h hI f.toNatClampNeg hfN
      rw [x_heard_143] at hE
      refine lv_iload hx hb dX11_heard_143 (lv_at hl 6 rfl) ?_
      refine lv_sipush (v := 200) hx hb dX11_heard_145 (by decide) ?_
      refine lv_icmp_ge (tgt := 183) hx hb dX11_heard_148 (by decide) (fun c_21 => ?_) (fun c_21 => ?_)
      · have t_c_21 := Int32.le_iff_toInt_le.mp c_21
        have hE := hE.trans (if_pos c_21)
        refine lv_iload hx hb dX11_heard_183 (lv_at hl 5 rfl) ?_
        refine lv_if_le (tgt := 224) hx hb dX11_heard_185 (by decide) (fun c_22 => ?_) (fun c_22 => ?_)
        · have t_c_22 := Int32.le_iff_toInt_le.mp c_22
          have hE := hE.trans (if_pos c_22)
          exact J_224 mi ma i3 i4 i5 _ _ hP hD hS hI hFI hFA hE ⟨by omega, by omega, by omega, fun h9 => by have a9 := hv.1.2.2.2.1 h9; omega, fun h9 h8 => by have a9 := hv.1.2.2.2.2 h9 h8; omega⟩ _ (lv_sub hl [0, 1, 2, 3, 4, 5] rfl)
        · have t_c_22 := Int32.lt_iff_toInt_lt.mp (Int32.not_le.mp c_22)
          have hE := hE.trans (if_neg c_22)
          refine lv_aload_n hx hb dX11_heard_188 rfl (lv_at hl 0 rfl) ?_
          refine va_get (D := D) (ci := 11) (v := .ref (mq 61)) (C := RX11) (T := TX11) (N := 74) hx hb ha inlX11 hown hK hP 0 mw_at0 rfl 61 (by decide) (ha _ kf_X11_151) (fun _ h9 => h9) rfl dX11_heard_189 ?_
          refine lv_iload_n hx hb dX11_heard_192 rfl (lv_at hl 1 rfl) ?_
          refine lv_aload_n hx hb dX11_heard_193 rfl (lv_at hl 0 rfl) ?_
          refine va_get (D := D) (ci := 11) (v := .ref (mq 45)) (C := RX11) (T := TX11) (N := 74) hx hb ha inlX11 hown hK hP 0 mw_at0 rfl 45 (by decide) (ha _ kf_X11_103) (fun _ h9 => h9) rfl dX11_heard_194 ?_
          refine lv_iload_n hx hb dX11_heard_197 rfl (lv_at hl 1 rfl) ?_
          have hin_23 : vp_in f 4 := vpi_of (by omega) (by omega)
          refine va_iald hx hb hK hP 27 0 mw_at45 rfl hin_23 dX11_heard_198 ?_
          refine lv_topi (fun x_24 ex_24 => ?_)
          have hE := bd_at ex_24 hE
          have u_x_24 := congrArg Int32.toInt ex_24
          have r_x_24 := rg_ld (MB_nxt hI) hin_23 ex_24
          refine lv_aload_n hx hb dX11_heard_199 rfl (lv_at hl 0 rfl) ?_
          refine va_get (D := D) (ci := 11) (v := .ref (mq 44)) (C := RX11) (T := TX11) (N := 74) hx hb ha inlX11 hown hK hP 0 mw_at0 rfl 44 (by decide) (ha _ kf_X11_100) (fun _ h9 => h9) rfl dX11_heard_200 ?_
          refine lv_iload_n hx hb dX11_heard_203 rfl (lv_at hl 1 rfl) ?_
          have hin_25 : vp_in f 4 := vpi_of (by omega) (by omega)
          refine va_iald hx hb hK hP 26 0 mw_at44 rfl hin_25 dX11_heard_204 ?_
          refine lv_topi (fun x_26 ex_26 => ?_)
          have hE := bd_at ex_26 hE
          have u_x_26 := congrArg Int32.toInt ex_26
          have r_x_26 := rg_ld (MB_una hI) hin_25 ex_26
          refine lv_icmp_le (tgt := 222) hx hb dX11_heard_205 (by decide) (fun c_27 => ?_) (fun c_27 => ?_)
          · have t_c_27 := Int32.le_iff_toInt_le.mp c_27
            have hE := hE.trans (if_pos c_27)
            refine lv_iconst (v := (-1)) hx hb dX11_heard_222 (by decide) ?_
            have hin_28 : vp_in f 4 := vpi_of (by omega) (by omega)
            refine va_iast hx hb hK hP hD hS 43 0 mw_at61 rfl hin_28 dX11_heard_223 (fun H locs hP hD hS => ?_)
            have hP : va_P D vwCl (mw cI cZ h0 mq mi (va_up ma 61 (upd (ma 61) f.toNatClampNeg ((-1) : Int32)))) H := mwP_61 hP
            have hD : va_D A (mw cI cZ h0 mq mi (va_up ma 61 (upd (ma 61) f.toNatClampNeg ((-1) : Int32)))) := mwD_61 hD
            generalize hma_29 : va_up ma 61 (upd (ma 61) f.toNatClampNeg ((-1) : Int32)) = ma_29 at hP hD
            have hI : MB mi ma_29 := by rw [← hma_29]; exact MBa_timer hI
            have hFA : ∀ k, k ∉ ([69, 51, 50, 52, 49, 44, 45, 60, 71, 61, 53, 47, 68, 67, 64, 65, 66, 54, 31, 7, 8, 9, 59, 46, 70, 72, 58, 63, 48, 55, 56] : List Nat) → ma_29 k = ma0 k := fun k hk => by rw [← hma_29]; exact (va_up_ne _ _ (fun e => hk (by rw [e]; decide))).trans (hFA k hk)
            have hE := bs_at hma_29 hE
            have lk_44 : (ma_29 44 f.toNatClampNeg).toInt = (ma 44 f.toNatClampNeg).toInt := congrArg Int32.toInt (congrFun ((congrFun hma_29 44).symm) f.toNatClampNeg)
            have lk_45 : (ma_29 45 f.toNatClampNeg).toInt = (ma 45 f.toNatClampNeg).toInt := congrArg Int32.toInt (congrFun ((congrFun hma_29 45).symm) f.toNatClampNeg)
            exact J_224 mi ma_29 i3 i4 i5 _ _ hP hD hS hI hFI hFA hE ⟨by omega, by omega, by omega, fun h9 => by have a9 := hv.1.2.2.2.1 h9; omega, fun h9 h8 => by have a9 := hv.1.2.2.2.2 h9 h8; omega⟩ _ (lv_sub hl [0, 1, 2, 3, 4, 5] rfl)
          · have t_c_27 := Int32.lt_iff_toInt_lt.mp (Int32.not_le.mp c_27)
            have hE := hE.trans (if_neg c_27)
            refine lv_aload_n hx hb dX11_heard_208 rfl (lv_at hl 0 rfl) ?_
            refine va_get (D := D) (ci := 11) (v := .int (mi 4)) (C := RX11) (T := TX11) (N := 74) hx hb ha inlX11 hown hK hP 0 mw_at0 rfl 4 (by decide) (ha _ kf_X11_207) (fun _ h9 => h9) rfl dX11_heard_209 ?_
            refine lv_topi (fun x_30 ex_30 => ?_)
            have hE := bd_at ex_30 hE
            have u_x_30 := congrArg Int32.toInt ex_30
            have r_x_30 := MB_tick hI
            rw [← ex_30] at r_x_30
            refine lv_aload_n hx hb dX11_heard_212 rfl (lv_at hl 0 rfl) ?_
            refine va_get (D := D) (ci := 11) (v := .ref (mq 49)) (C := RX11) (T := TX11) (N := 74) hx hb ha inlX11 hown hK hP 0 mw_at0 rfl 49 (by decide) (ha _ kf_X11_115) (fun _ h9 => h9) rfl dX11_heard_213 ?_
            refine lv_iload_n hx hb dX11_heard_216 rfl (lv_at hl 1 rfl) ?_
            have hin_31 : vp_in f 4 := vpi_of (by omega) (by omega)
            refine va_iald hx hb hK hP 31 0 mw_at49 rfl hin_31 dX11_heard_217 ?_
            refine lv_topi (fun x_32 ex_32 => ?_)
            have hE := bd_at ex_32 hE
            have u_x_32 := congrArg Int32.toInt ex_32
            refine lv_iadd hx hb dX11_heard_218 ?_
            refine lv_topi (fun x_33 ex_33 => ?_)
            have hE := bd_at ex_33 hE
            refine lv_goto (tgt := 223) hx hb dX11_heard_219 (by decide) ?_
            have hin_34 : vp_in f 4 := vpi_of (by omega) (by omega)
            refine va_iast hx hb hK hP hD hS 43 0 mw_at61 rfl hin_34 dX11_heard_223 (fun H locs hP hD hS => ?_)
            have hP : va_P D vwCl (mw cI cZ h0 mq mi (va_up ma 61 (upd (ma 61) f.toNatClampNeg x_33))) H := mwP_61 hP
            have hD : va_D A (mw cI cZ h0 mq mi (va_up ma 61 (upd (ma 61) f.toNatClampNeg x_33))) := mwD_61 hD
            generalize hma_35 : va_up ma 61 (upd (ma 61) f.toNatClampNeg x_33) = ma_35 at hP hD
            have hI : MB mi ma_35 := by rw [← hma_35]; exact MBa_timer hI
            have hFA : ∀ k, k ∉ ([69, 51, 50, 52, 49, 44, 45, 60, 71, 61, 53, 47, 68, 67, 64, 65, 66, 54, 31, 7, 8, 9, 59, 46, 70, 72, 58, 63, 48, 55, 56] : List Nat) → ma_35 k = ma0 k := fun k hk => by rw [← hma_35]; exact (va_up_ne _ _ (fun e => hk (by rw [e]; decide))).trans (hFA k hk)
            have hE := bs_at hma_35 hE
            have lk_44 : (ma_35 44 f.toNatClampNeg).toInt = (ma 44 f.toNatClampNeg).toInt := congrArg Int32.toInt (congrFun ((congrFun hma_35 44).symm) f.toNatClampNeg)
            have lk_45 : (ma_35 45 f.toNatClampNeg).toInt = (ma 45 f.toNatClampNeg).toInt := congrArg Int32.toInt (congrFun ((congrFun hma_35 45).symm) f.toNatClampNeg)
            exact J_224 mi ma_35 i3 i4 i5 _ _ hP hD hS hI hFI hFA hE ⟨by omega, by omega, by omega, fun h9 => by have a9 := hv.1.2.2.2.1 h9; omega, fun h9 h8 => by have a9 := hv.1.2.2.2.2 h9 h8; omega⟩ _ (lv_sub hl [0, 1, 2, 3, 4, 5] rfl)
      · have t_c_21 := Int32.lt_iff_toInt_lt.mp (Int32.not_le.mp c_21)
        have hE := hE.trans (if_neg c_21)
        refine lv_aload_n hx hb dX11_heard_151 rfl (lv_at hl 0 rfl) ?_
        refine va_get (D := D) (ci := 11) (v := .ref (mq 71)) (C := RX11) (T := TX11) (N := 74) hx hb ha inlX11 hown hK hP 0 mw_at0 rfl 71 (by decide) (ha _ kf_X11_181) (fun _ h9 => h9) rfl dX11_heard_152 ?_
        refine lv_sipush (v := 200) hx hb dX11_heard_155 (by decide) ?_
        refine lv_iload_n hx hb dX11_heard_158 rfl (lv_at hl 1 rfl) ?_
        refine lv_imul hx hb dX11_heard_159 ?_
        refine lv_topi (fun x_36 ex_36 => ?_)
        have hE := bd_at ex_36 hE
        try have t_x_36 := ti_mulc (k := 200) ex_36 tk_200 (by omega) (by omega)
        refine lv_iload hx hb dX11_heard_160 (lv_at hl 6 rfl) ?_
        refine lv_iadd hx hb dX11_heard_162 ?_
        refine lv_topi (fun x_37 ex_37 => ?_)
        have hE := bd_at ex_37 hE
        try have t_x_37 := ti_add ex_37 (by omega) (by omega)
        refine lv_aload_n hx hb dX11_heard_163 rfl (lv_at hl 0 rfl) ?_
        refine va_get (D := D) (ci := 11) (v := .ref (mq 25)) (C := RX11) (T := TX11) (N := 74) hx hb ha inlX11 hown hK hP 0 mw_at0 rfl 25 (by decide) (ha _ kf_X11_61) (fun _ h9 => h9) rfl dX11_heard_164 ?_
        refine lv_sipush (v := 200) hx hb dX11_heard_167 (by decide) ?_
        refine lv_iload_n hx hb dX11_heard_170 rfl (lv_at hl 2 rfl) ?_
        refine lv_imul hx hb dX11_heard_171 ?_
        refine lv_topi (fun x_38 ex_38 => ?_)
        have hE := bd_at ex_38 hE
        try have t_x_38 := ti_mulc (k := 200) ex_38 tk_200 (by omega) (by omega)
        refine lv_iload hx hb dX11_heard_172 (lv_at hl 6 rfl) ?_
        refine lv_iadd hx hb dX11_heard_174 ?_
        refine lv_topi (fun x_39 ex_39 => ?_)
        have hE := bd_at ex_39 hE
        try have t_x_39 := ti_add ex_39 (by omega) (by omega)
        have hin_40 : vp_in x_39 1200000 := vpi_of (by omega) (by omega)
        refine va_zald hx hb hK hP 13 2 mw_at25 rfl hin_40 dX11_heard_175 ?_
        refine lv_topi (fun x_41 ex_41 => ?_)
        have hE := bd_at ex_41 hE
        have u_x_41 := congrArg Int32.toInt ex_41
        have hin_42 : vp_in x_37 800 := vpi_of (by omega) (by omega)
        refine va_zast hx hb hK hP hD hS 53 2 mw_at71 rfl hin_42 dX11_heard_176 (fun H locs hP hD hS => ?_)
        have hP : va_P D vwCl (mw cI cZ h0 mq mi (va_up ma 71 (upd (ma 71) x_37.toNatClampNeg (vp_nar .boolean x_41)))) H := mwP_71 hP
        have hD : va_D A (mw cI cZ h0 mq mi (va_up ma 71 (upd (ma 71) x_37.toNatClampNeg (vp_nar .boolean x_41)))) := mwD_71 hD
        generalize hma_43 : va_up ma 71 (upd (ma 71) x_37.toNatClampNeg (vp_nar .boolean x_41)) = ma_43 at hP hD
        have hI : MB mi ma_43 := by rw [← hma_43]; exact MBa_board hI
        have hFA : ∀ k, k ∉ ([69, 51, 50, 52, 49, 44, 45, 60, 71, 61, 53, 47, 68, 67, 64, 65, 66, 54, 31, 7, 8, 9, 59, 46, 70, 72, 58, 63, 48, 55, 56] : List Nat) → ma_43 k = ma0 k := fun k hk => by rw [← hma_43]; exact (va_up_ne _ _ (fun e => hk (by rw [e]; decide))).trans (hFA k hk)
        have hE := bs_at hma_43 hE
        obtain ⟨x_44, ex_44⟩ : ∃ y : Int32, y = i6 + 1 := ⟨_, rfl⟩
        have hE := bd_at ex_44 hE
        refine lv_iinc (v := x_44) (lv' := [(6, .int x_44), (0, .ref h0), (1, .int f), (2, .int kk), (3, .int i3), (4, .int i4), (5, .int i5)]) hx hb dX11_heard_177 hl (k := 6) rfl (by rw [ex_44]; rfl) (by decide) rfl (fun ls hl => ?_)
        try have t_x_44 := ti_add ex_44 (by omega) (by omega)
        refine lv_goto (tgt := 143) hx hb dX11_heard_180 (by decide) ?_
        have lk_44 : (ma_43 44 f.toNatClampNeg).toInt = (ma 44 f.toNatClampNeg).toInt := congrArg Int32.toInt (congrFun ((congrFun hma_43 44).symm) f.toNatClampNeg)
        have lk_45 : (ma_43 45 f.toNatClampNeg).toInt = (ma 45 f.toNatClampNeg).toInt := congrArg Int32.toInt (congrFun ((congrFun hma_43 45).symm) f.toNatClampNeg)
        exact ih_143 mi ma_43 i3 i4 i5 x_44 _ _ hP hD hS hI hFI hFA hE ⟨⟨by omega, by omega, by omega, fun h9 => by have a9 := hv.1.2.2.2.1 h9; omega, fun h9 h8 => by have a9 := hv.1.2.2.2.2 h9 h8; omega⟩, by omega⟩ _ (lv_sub hl [1, 2, 3, 4, 5, 6, 0] rfl) (by omega)
  have J_128 : ∀ (mi : Nat → Int32) (ma : Nat → Nat → Int32) (i3 : Int32) (i4 : Int32) (i5 : Int32) (H : Heap) (locs : List Loc), va_P D vwCl (mw cI cZ h0 mq mi ma) H → va_D A (mw cI cZ h0 mq mi ma) → va_S A s.heap H locs → MB mi ma → (∀ k, k ∉ ([26, 30, 28, 27, 6, 5] : List Nat) → mi k = mi0 k) → (∀ k, k ∉ ([69, 51, 50, 52, 49, 44, 45, 60, 71, 61, 53, 47, 68, 67, 64, 65, 66, 54, 31, 7, 8, 9, 59, 46, 70, 72, 58, 63, 48, 55, 56] : List Nat) → ma k = ma0 k) → RES = x_heard_128 f kk mi ma i3 i4 i5 → (0 ≤ i3.toInt ∧ i3.toInt ≤ 1000001 ∧ i5.toInt ≤ 1000001 ∧ (0 < i5.toInt → i3.toInt = (ma 44 f.toNatClampNeg).toInt) ∧ (i5.toInt ≤ 0 → ¬ i4 = 0 → (ma 44 f.toNatClampNeg).toInt < (ma 45 f.toNatClampNeg).toInt)) → ∀ (ls : Array Slot), lv_has ls 7 [(0, .ref h0), (1, .int f), (2, .int kk), (3, .int i3), (4, .int i4), (5, .int i5)] → W p l e ({ frames := 4, cells := 0, slots := 0, locals := 93 }) s m #[(.ref h0 : Value), (.int f : Value), (.int kk : Value)] below meth c H locs 0 0 QP (F0 m 128 ls []) := by
    intro mi ma i3 i4 i5 H locs hP hD hS hI hFI hFA hE hv ls hl
    have hfN : f.toNatClampNeg < 4 := in_lt (vpi_of (n := 4) hf0 (by omega))
    have hle := MB_le2n hI f.toNatClampNeg hfN
    have hlh := MB_le2h hI f.toNatClampNeg hfN
    rw [x_heard_128] at hE
    refine lv_aload_n hx hb dX11_heard_128 rfl (lv_at hl 0 rfl) ?_
    refine va_get (D := D) (ci := 11) (v := .ref (mq 60)) (C := RX11) (T := TX11) (N := 74) hx hb ha inlX11 hown hK hP 0 mw_at0 rfl 60 (by decide) (ha _ kf_X11_148) (fun _ h9 => h9) rfl dX11_heard_129 ?_
    refine lv_iload_n hx hb dX11_heard_132 rfl (lv_at hl 1 rfl) ?_
    refine lv_aload_n hx hb dX11_heard_133 rfl (lv_at hl 0 rfl) ?_
    refine va_get (D := D) (ci := 11) (v := .ref (mq 23)) (C := RX11) (T := TX11) (N := 74) hx hb ha inlX11 hown hK hP 0 mw_at0 rfl 23 (by decide) (ha _ kf_X11_54) (fun _ h9 => h9) rfl dX11_heard_134 ?_
    refine lv_iload_n hx hb dX11_heard_137 rfl (lv_at hl 2 rfl) ?_
    have hin_45 : vp_in kk 6000 := vpi_of (by omega) (by omega)
    refine va_iald hx hb hK hP 11 0 mw_at23 rfl hin_45 dX11_heard_138 ?_
    refine lv_topi (fun x_46 ex_46 => ?_)
    have hE := bd_at ex_46 hE
    have u_x_46 := congrArg Int32.toInt ex_46
    have r_x_46 := rg_ld (MB_ackWindow hI) hin_45 ex_46
    have hin_47 : vp_in f 4 := vpi_of (by omega) (by omega)
    refine va_iast hx hb hK hP hD hS 42 0 mw_at60 rfl hin_47 dX11_heard_139 (fun H locs hP hD hS => ?_)
    have hP : va_P D vwCl (mw cI cZ h0 mq mi (va_up ma 60 (upd (ma 60) f.toNatClampNeg x_46))) H := mwP_60 hP
    have hD : va_D A (mw cI cZ h0 mq mi (va_up ma 60 (upd (ma 60) f.toNatClampNeg x_46))) := mwD_60 hD
    generalize hma_48 : va_up ma 60 (upd (ma 60) f.toNatClampNeg x_46) = ma_48 at hP hD
    have hI : MB mi ma_48 := by rw [← hma_48]; exact MBa_w hI (by omega) (by omega)
    have hFA : ∀ k, k ∉ ([69, 51, 50, 52, 49, 44, 45, 60, 71, 61, 53, 47, 68, 67, 64, 65, 66, 54, 31, 7, 8, 9, 59, 46, 70, 72, 58, 63, 48, 55, 56] : List Nat) → ma_48 k = ma0 k := fun k hk => by rw [← hma_48]; exact (va_up_ne _ _ (fun e => hk (by rw [e]; decide))).trans (hFA k hk)
    have hE := bs_at hma_48 hE
    refine lv_iconst (v := 0) hx hb dX11_heard_140 (by decide) ?_
    refine lv_istore (lv' := [(6, .int 0), (0, .ref h0), (1, .int f), (2, .int kk), (3, .int i3), (4, .int i4), (5, .int i5)]) hx hb dX11_heard_141 hl (by decide) rfl (fun ls hl => ?_)
    have lk_44 : (ma_48 44 f.toNatClampNeg).toInt = (ma 44 f.toNatClampNeg).toInt := congrArg Int32.toInt (congrFun ((congrFun hma_48 44).symm) f.toNatClampNeg)
    have lk_45 : (ma_48 45 f.toNatClampNeg).toInt = (ma 45 f.toNatClampNeg).toInt := congrArg Int32.toInt (congrFun ((congrFun hma_48 45).symm) f.toNatClampNeg)
    exact J_143 201 mi ma_48 i3 i4 i5 (0 : Int32) _ _ hP hD hS hI hFI hFA hE ⟨⟨by omega, by omega, by omega, fun h9 => by have a9 := hv.2.2.2.1 h9; omega, fun h9 h8 => by have a9 := hv.2.2.2.2 h9 h8; omega⟩, by omega⟩ _ (lv_sub hl [1, 2, 3, 4, 5, 6, 0] rfl) (by omega)
  have J_74 : ∀ (mi : Nat → Int32) (ma : Nat → Nat → Int32) (i3 : Int32) (i4 : Int32) (H : Heap) (locs : List Loc), va_P D vwCl (mw cI cZ h0 mq mi ma) H → va_D A (mw cI cZ h0 mq mi ma) → va_S A s.heap H locs → MB mi ma → (∀ k, k ∉ ([26, 30, 28, 27, 6, 5] : List Nat) → mi k = mi0 k) → (∀ k, k ∉ ([69, 51, 50, 52, 49, 44, 45, 60, 71, 61, 53, 47, 68, 67, 64, 65, 66, 54, 31, 7, 8, 9, 59, 46, 70, 72, 58, 63, 48, 55, 56] : List Nat) → ma k = ma0 k) → RES = x_heard_74 f kk mi ma i3 i4 → (0 ≤ i3.toInt ∧ i3.toInt ≤ 1000001 ∧ (ma 44 f.toNatClampNeg).toInt ≤ i3.toInt ∧ (¬ i4 = 0 → (ma 44 f.toNatClampNeg).toInt < (ma 45 f.toNatClampNeg).toInt)) → ∀ (ls : Array Slot), lv_has ls 7 [(0, .ref h0), (1, .int f), (2, .int kk), (3, .int i3), (4, .int i4)] → W p l e ({ frames := 4, cells := 0, slots := 0, locals := 93 }) s m #[(.ref h0 : Value), (.int f : Value), (.int kk : Value)] below meth c H locs 0 0 QP (F0 m 74 ls []) := by
    intro mi ma i3 i4 H locs hP hD hS hI hFI hFA hE hv ls hl
    have hfN : f.toNatClampNeg < 4 := in_lt (vpi_of (n := 4) hf0 (by omega))
    have hle := MB_le2n hI f.toNatClampNeg hfN
    have hlh := MB_le2h hI f.toNatClampNeg hfN
    rw [x_heard_74] at hE
    refine lv_iload_n hx hb dX11_heard_74 rfl (lv_at hl 3 rfl) ?_
    refine lv_aload_n hx hb dX11_heard_75 rfl (lv_at hl 0 rfl) ?_
    refine va_get (D := D) (ci := 11) (v := .ref (mq 44)) (C := RX11) (T := TX11) (N := 74) hx hb ha inlX11 hown hK hP 0 mw_at0 rfl 44 (by decide) (ha _ kf_X11_100) (fun _ h9 => h9) rfl dX11_heard_76 ?_
    refine lv_iload_n hx hb dX11_heard_79 rfl (lv_at hl 1 rfl) ?_
    have hin_49 : vp_in f 4 := vpi_of (by omega) (by omega)
    refine va_iald hx hb hK hP 26 0 mw_at44 rfl hin_49 dX11_heard_80 ?_
    refine lv_topi (fun x_50 ex_50 => ?_)
    have hE := bd_at ex_50 hE
    have u_x_50 := congrArg Int32.toInt ex_50
    have r_x_50 := rg_ld (MB_una hI) hin_49 ex_50
    refine lv_isub hx hb dX11_heard_81 ?_
    refine lv_topi (fun x_51 ex_51 => ?_)
    have hE := bd_at ex_51 hE
    try have t_x_51 := ti_sub ex_51 (by omega) (by omega)
    refine lv_istore (lv' := [(5, .int x_51), (0, .ref h0), (1, .int f), (2, .int kk), (3, .int i3), (4, .int i4)]) hx hb dX11_heard_82 hl (by decide) rfl (fun ls hl => ?_)
    refine lv_iload hx hb dX11_heard_84 (lv_at hl 0 rfl) ?_
    refine lv_if_le (tgt := 128) hx hb dX11_heard_86 (by decide) (fun c_52 => ?_) (fun c_52 => ?_)
    · have t_c_52 := Int32.le_iff_toInt_le.mp c_52
      have hE := hE.trans (if_pos c_52)
      exact J_128 mi ma i3 i4 x_51 _ _ hP hD hS hI hFI hFA hE ⟨by omega, by omega, by omega, fun h9 => by omega, fun _ h9 => hv.2.2.2 h9⟩ _ (lv_sub hl [1, 2, 3, 4, 5, 0] rfl)
    · have t_c_52 := Int32.lt_iff_toInt_lt.mp (Int32.not_le.mp c_52)
      have hE := hE.trans (if_neg c_52)
      refine lv_aload_n hx hb dX11_heard_89 rfl (lv_at hl 1 rfl) ?_
      refine lv_iload_n hx hb dX11_heard_90 rfl (lv_at hl 2 rfl) ?_
      refine lv_iload_n hx hb dX11_heard_91 rfl (lv_at hl 4 rfl) ?_
      have hFc := va_freeW hD hS hA
      refine va_callv (va_runV (As := [.int f, .int i3]) (rest := []) ⟨hx, hb, hml, hown, ha⟩ (m_measures l D cI cJ cZ cO _ h0 mq mi ma ph cl f i3 hI hf0 hf4) (cwV 2 ha (gaV kl_X11_283 km_X11_measures ks_X11_measures kz_X11 kd_X11_measures) rfl rfl rfl (by decide +kernel) ⟨Nat.le_of_ble_eq_true rfl, Nat.le_of_ble_eq_true rfl⟩) ⟨pw_blind, va_recv hK hP (ci := 11) (q0 := 0) rfl rfl, fun U hU hW => ⟨rfl, pw_start hU hW hP hK hD hN⟩⟩ rfl rfl hl.1 rfl (lv_room (Nat.le_of_ble_eq_true rfl)) dX11_heard_92 ⟨Nat.le_of_ble_eq_true rfl, Nat.le_of_ble_eq_true rfl⟩) hS (fun q _ h => hFc q h) hFc (fun u t H1 locs ht hvm hw hB hz1 hk1 hS => ?_)
      obtain ⟨mi_54, ma_55, ⟨hf_56, hX1, hX2⟩, hP, hK1, hD1⟩ := hB
      have hE := bc_atv hX1 hX2 hE
      rw [ht] at hP
      have hD := hD1.weaken (fun k q _ h => hFc q.1 h)
      clear hD1
      generalize H1 = H at hP hS ⊢
      refine W.widen (k := 0) (n := 0) (Nat.le_refl _) (Nat.le_refl _) ?_
      have hI := hf_56.1
      have hFI : ∀ k, k ∉ ([26, 30, 28, 27, 6, 5] : List Nat) → mi_54 k = mi0 k := fun k hk => (hf_56.2.1 k (fun h => hk (by revert h; exact sub_of (by decide) k))).trans (hFI k hk)
      have hFA : ∀ k, k ∉ ([69, 51, 50, 52, 49, 44, 45, 60, 71, 61, 53, 47, 68, 67, 64, 65, 66, 54, 31, 7, 8, 9, 59, 46, 70, 72, 58, 63, 48, 55, 56] : List Nat) → ma_55 k = ma0 k := fun k hk => (hf_56.2.2 k (fun h => hk (by revert h; exact sub_of (by decide) k))).trans (hFA k hk)
      refine lv_aload_n hx hb dX11_heard_95 rfl (lv_at hl 1 rfl) ?_
      refine va_get (D := D) (ci := 11) (v := .ref (mq 44)) (C := RX11) (T := TX11) (N := 74) hx hb ha inlX11 hown hK hP 0 mw_at0 rfl 44 (by decide) (ha _ kf_X11_100) (fun _ h9 => h9) rfl dX11_heard_96 ?_
      refine lv_iload_n hx hb dX11_heard_99 rfl (lv_at hl 2 rfl) ?_
      refine lv_iload_n hx hb dX11_heard_100 rfl (lv_at hl 4 rfl) ?_
      have hin_57 : vp_in f 4 := vpi_of (by omega) (by omega)
      refine va_iast hx hb hK hP hD hS 26 0 mw_at44 rfl hin_57 dX11_heard_101 (fun H locs hP hD hS => ?_)
      have hP : va_P D vwCl (mw cI cZ h0 mq mi_54 (va_up ma_55 44 (upd (ma_55 44) f.toNatClampNeg i3))) H := mwP_44 hP
      have hD : va_D A (mw cI cZ h0 mq mi_54 (va_up ma_55 44 (upd (ma_55 44) f.toNatClampNeg i3))) := mwD_44 hD
      generalize hma_58 : va_up ma_55 44 (upd (ma_55 44) f.toNatClampNeg i3) = ma_58 at hP hD
      have hI : MB mi_54 ma_58 := by rw [← hma_58]; exact MBa_una hI (by omega) (by omega) (by have a1 := congrArg Int32.toInt (congrFun ((hf_56.2.2 44 (by decide))) f.toNatClampNeg); omega)
      have hFA : ∀ k, k ∉ ([69, 51, 50, 52, 49, 44, 45, 60, 71, 61, 53, 47, 68, 67, 64, 65, 66, 54, 31, 7, 8, 9, 59, 46, 70, 72, 58, 63, 48, 55, 56] : List Nat) → ma_58 k = ma0 k := fun k hk => by rw [← hma_58]; exact (va_up_ne _ _ (fun e => hk (by rw [e]; decide))).trans (hFA k hk)
      have hE := bs_at hma_58 hE
      have pu : (ma_58 44 f.toNatClampNeg).toInt = i3.toInt := congrArg Int32.toInt ((congrFun (congrFun hma_58 44) f.toNatClampNeg).symm.trans (if_pos rfl))
      refine lv_aload_n hx hb dX11_heard_102 rfl (lv_at hl 1 rfl) ?_
      refine va_get (D := D) (ci := 11) (v := .ref (mq 45)) (C := RX11) (T := TX11) (N := 74) hx hb ha inlX11 hown hK hP 0 mw_at0 rfl 45 (by decide) (ha _ kf_X11_103) (fun _ h9 => h9) rfl dX11_heard_103 ?_
      refine lv_iload_n hx hb dX11_heard_106 rfl (lv_at hl 2 rfl) ?_
      refine lv_iload_n hx hb dX11_heard_107 rfl (lv_at hl 4 rfl) ?_
      refine lv_aload_n hx hb dX11_heard_108 rfl (lv_at hl 1 rfl) ?_
      refine va_get (D := D) (ci := 11) (v := .ref (mq 45)) (C := RX11) (T := TX11) (N := 74) hx hb ha inlX11 hown hK hP 0 mw_at0 rfl 45 (by decide) (ha _ kf_X11_103) (fun _ h9 => h9) rfl dX11_heard_109 ?_
      refine lv_iload_n hx hb dX11_heard_112 rfl (lv_at hl 2 rfl) ?_
      have hin_59 : vp_in f 4 := vpi_of (by omega) (by omega)
      refine va_iald hx hb hK hP 27 0 mw_at45 rfl hin_59 dX11_heard_113 ?_
      refine lv_topi (fun x_60 ex_60 => ?_)
      have hE := bd_at ex_60 hE
      have u_x_60 := congrArg Int32.toInt ex_60
      have r_x_60 := rg_ld (MB_nxt hI) hin_59 ex_60
      refine lv_icmp_le (tgt := 121) hx hb dX11_heard_114 (by decide) (fun c_61 => ?_) (fun c_61 => ?_)
      · have t_c_61 := Int32.le_iff_toInt_le.mp c_61
        have hE := hE.trans (if_pos c_61)
        refine lv_aload_n hx hb dX11_heard_121 rfl (lv_at hl 1 rfl) ?_
        refine va_get (D := D) (ci := 11) (v := .ref (mq 45)) (C := RX11) (T := TX11) (N := 74) hx hb ha inlX11 hown hK hP 0 mw_at0 rfl 45 (by decide) (ha _ kf_X11_103) (fun _ h9 => h9) rfl dX11_heard_122 ?_
        refine lv_iload_n hx hb dX11_heard_125 rfl (lv_at hl 2 rfl) ?_
        have hin_62 : vp_in f 4 := vpi_of (by omega) (by omega)
        refine va_iald hx hb hK hP 27 0 mw_at45 rfl hin_62 dX11_heard_126 ?_
        refine lv_topi (fun x_63 ex_63 => ?_)
        have hE := bd_at ex_63 hE
        have u_x_63 := congrArg Int32.toInt ex_63
        have r_x_63 := rg_ld (MB_nxt hI) hin_62 ex_63
        have hin_64 : vp_in f 4 := vpi_of (by omega) (by omega)
        refine va_iast hx hb hK hP hD hS 27 0 mw_at45 rfl hin_64 dX11_heard_127 (fun H locs hP hD hS => ?_)
        have hP : va_P D vwCl (mw cI cZ h0 mq mi_54 (va_up ma_58 45 (upd (ma_58 45) f.toNatClampNeg x_63))) H := mwP_45 hP
        have hD : va_D A (mw cI cZ h0 mq mi_54 (va_up ma_58 45 (upd (ma_58 45) f.toNatClampNeg x_63))) := mwD_45 hD
        generalize hma_65 : va_up ma_58 45 (upd (ma_58 45) f.toNatClampNeg x_63) = ma_65 at hP hD
        have hI : MB mi_54 ma_65 := by rw [← hma_65]; exact MBa_nxt hI (by omega) (by omega) (by have a2 := MB_le2n hI f.toNatClampNeg hfN; omega)
        have hFA : ∀ k, k ∉ ([69, 51, 50, 52, 49, 44, 45, 60, 71, 61, 53, 47, 68, 67, 64, 65, 66, 54, 31, 7, 8, 9, 59, 46, 70, 72, 58, 63, 48, 55, 56] : List Nat) → ma_65 k = ma0 k := fun k hk => by rw [← hma_65]; exact (va_up_ne _ _ (fun e => hk (by rw [e]; decide))).trans (hFA k hk)
        have hE := bs_at hma_65 hE
        have lk_44 : (ma_65 44 f.toNatClampNeg).toInt = (ma_58 44 f.toNatClampNeg).toInt := congrArg Int32.toInt (congrFun ((congrFun hma_65 44).symm) f.toNatClampNeg)
        exact J_128 mi_54 ma_65 i3 i4 x_51 _ _ hP hD hS hI hFI hFA hE ⟨by omega, by omega, by omega, fun h9 => by omega, fun h9 => by omega⟩ _ (lv_sub hl [1, 2, 3, 4, 5, 0] rfl)
      · have t_c_61 := Int32.lt_iff_toInt_lt.mp (Int32.not_le.mp c_61)
        have hE := hE.trans (if_neg c_61)
        refine lv_iload_n hx hb dX11_heard_117 rfl (lv_at hl 4 rfl) ?_
        refine lv_goto (tgt := 127) hx hb dX11_heard_118 (by decide) ?_
        have hin_66 : vp_in f 4 := vpi_of (by omega) (by omega)
        refine va_iast hx hb hK hP hD hS 27 0 mw_at45 rfl hin_66 dX11_heard_127 (fun H locs hP hD hS => ?_)
        have hP : va_P D vwCl (mw cI cZ h0 mq mi_54 (va_up ma_58 45 (upd (ma_58 45) f.toNatClampNeg i3))) H := mwP_45 hP
        have hD : va_D A (mw cI cZ h0 mq mi_54 (va_up ma_58 45 (upd (ma_58 45) f.toNatClampNeg i3))) := mwD_45 hD
        generalize hma_67 : va_up ma_58 45 (upd (ma_58 45) f.toNatClampNeg i3) = ma_67 at hP hD
        have hI : MB mi_54 ma_67 := by rw [← hma_67]; exact MBa_nxt hI (by omega) (by omega) (by have a2 := MB_le2n hI f.toNatClampNeg hfN; omega)
        have hFA : ∀ k, k ∉ ([69, 51, 50, 52, 49, 44, 45, 60, 71, 61, 53, 47, 68, 67, 64, 65, 66, 54, 31, 7, 8, 9, 59, 46, 70, 72, 58, 63, 48, 55, 56] : List Nat) → ma_67 k = ma0 k := fun k hk => by rw [← hma_67]; exact (va_up_ne _ _ (fun e => hk (by rw [e]; decide))).trans (hFA k hk)
        have hE := bs_at hma_67 hE
        have lk_44 : (ma_67 44 f.toNatClampNeg).toInt = (ma_58 44 f.toNatClampNeg).toInt := congrArg Int32.toInt (congrFun ((congrFun hma_67 44).symm) f.toNatClampNeg)
        exact J_128 mi_54 ma_67 i3 i4 x_51 _ _ hP hD hS hI hFI hFA hE ⟨by omega, by omega, by omega, fun h9 => by omega, fun h9 => by omega⟩ _ (lv_sub hl [1, 2, 3, 4, 5, 0] rfl)
  -- from the entry
  rw [hQP] at J_74
  rw [hQP] at J_128
  rw [hQP] at J_143
  rw [hQP] at J_224
  rw [hQP] at J_255
  have hE := hRES
  unfold x_heard at hE
  have hE := ax_at (⟨hI, ⟨hf0, hff⟩, hk0, hk1⟩) hE
  refine lv_aload_n hx hb dX11_heard_0 rfl (lv_at hl 0 rfl) ?_
  refine va_get (D := D) (ci := 11) (v := .ref (mq 22)) (C := RX11) (T := TX11) (N := 74) hx hb ha inlX11 hown hK hP 0 mw_at0 rfl 22 (by decide) (ha _ kf_X11_51) (fun _ h9 => h9) rfl dX11_heard_1 ?_
  refine lv_iload_n hx hb dX11_heard_4 rfl (lv_at hl 2 rfl) ?_
  have hin_68 : vp_in kk 6000 := vpi_of (by omega) (by omega)
  refine va_iald hx hb hK hP 10 0 mw_at22 rfl hin_68 dX11_heard_5 ?_
  refine lv_topi (fun x_69 ex_69 => ?_)
  have hE := bd_at ex_69 hE
  have u_x_69 := congrArg Int32.toInt ex_69
  have r_x_69 := rg_ld (MB_ackNext hI) hin_68 ex_69
  refine lv_istore_n (lv' := [(3, .int x_69), (0, .ref h0), (1, .int f), (2, .int kk)]) hx hb dX11_heard_6 rfl hl (by decide) rfl (fun ls hl => ?_)
  refine lv_iload_n hx hb dX11_heard_7 rfl (lv_at hl 0 rfl) ?_
  refine lv_aload_n hx hb dX11_heard_8 rfl (lv_at hl 1 rfl) ?_
  refine va_get (D := D) (ci := 11) (v := .ref (mq 44)) (C := RX11) (T := TX11) (N := 74) hx hb ha inlX11 hown hK hP 0 mw_at0 rfl 44 (by decide) (ha _ kf_X11_100) (fun _ h9 => h9) rfl dX11_heard_9 ?_
  refine lv_iload_n hx hb dX11_heard_12 rfl (lv_at hl 2 rfl) ?_
  have hin_70 : vp_in f 4 := vpi_of (by omega) (by omega)
  refine va_iald hx hb hK hP 26 0 mw_at44 rfl hin_70 dX11_heard_13 ?_
  refine lv_topi (fun x_71 ex_71 => ?_)
  have hE := bd_at ex_71 hE
  have u_x_71 := congrArg Int32.toInt ex_71
  have r_x_71 := rg_ld (MB_una hI) hin_70 ex_71
  refine lv_icmp_ge (tgt := 18) hx hb dX11_heard_14 (by decide) (fun c_72 => ?_) (fun c_72 => ?_)
  · have t_c_72 := Int32.le_iff_toInt_le.mp c_72
    have hE := hE.trans (if_pos c_72)
    refine lv_iload_n hx hb dX11_heard_18 rfl (lv_at hl 0 rfl) ?_
    refine lv_aload_n hx hb dX11_heard_19 rfl (lv_at hl 1 rfl) ?_
    refine va_get (D := D) (ci := 11) (v := .ref (mq 44)) (C := RX11) (T := TX11) (N := 74) hx hb ha inlX11 hown hK hP 0 mw_at0 rfl 44 (by decide) (ha _ kf_X11_100) (fun _ h9 => h9) rfl dX11_heard_20 ?_
    refine lv_iload_n hx hb dX11_heard_23 rfl (lv_at hl 2 rfl) ?_
    have hin_73 : vp_in f 4 := vpi_of (by omega) (by omega)
    refine va_iald hx hb hK hP 26 0 mw_at44 rfl hin_73 dX11_heard_24 ?_
    refine lv_topi (fun x_74 ex_74 => ?_)
    have hE := bd_at ex_74 hE
    have u_x_74 := congrArg Int32.toInt ex_74
    have r_x_74 := rg_ld (MB_una hI) hin_73 ex_74
    refine lv_icmp_ne (tgt := 71) hx hb dX11_heard_25 (by decide) (fun c_75 => ?_) (fun c_75 => ?_)
    · have t_c_75 := mt Int32.toInt_inj.mp c_75
      have hE := hE.trans (if_neg c_75)
      refine lv_iconst (v := 0) hx hb dX11_heard_71 (by decide) ?_
      refine lv_istore (lv' := [(4, .int 0), (3, .int x_69), (0, .ref h0), (1, .int f), (2, .int kk)]) hx hb dX11_heard_72 hl (by decide) rfl (fun ls hl => ?_)
      exact J_74 mi ma x_69 (0 : Int32) _ _ hP hD hS hI hFI hFA hE ⟨by omega, by omega, by omega, fun h9 => absurd rfl h9⟩ _ (lv_sub hl [2, 3, 4, 1, 0] rfl)
    · have t_c_75 := congrArg Int32.toInt c_75
      have hE := hE.trans (if_pos c_75)
      refine lv_aload_n hx hb dX11_heard_28 rfl (lv_at hl 1 rfl) ?_
      refine va_get (D := D) (ci := 11) (v := .ref (mq 23)) (C := RX11) (T := TX11) (N := 74) hx hb ha inlX11 hown hK hP 0 mw_at0 rfl 23 (by decide) (ha _ kf_X11_54) (fun _ h9 => h9) rfl dX11_heard_29 ?_
      refine lv_iload_n hx hb dX11_heard_32 rfl (lv_at hl 3 rfl) ?_
      have hin_76 : vp_in kk 6000 := vpi_of (by omega) (by omega)
      refine va_iald hx hb hK hP 11 0 mw_at23 rfl hin_76 dX11_heard_33 ?_
      refine lv_topi (fun x_77 ex_77 => ?_)
      have hE := bd_at ex_77 hE
      have u_x_77 := congrArg Int32.toInt ex_77
      have r_x_77 := rg_ld (MB_ackWindow hI) hin_76 ex_77
      refine lv_aload_n hx hb dX11_heard_34 rfl (lv_at hl 1 rfl) ?_
      refine va_get (D := D) (ci := 11) (v := .ref (mq 60)) (C := RX11) (T := TX11) (N := 74) hx hb ha inlX11 hown hK hP 0 mw_at0 rfl 60 (by decide) (ha _ kf_X11_148) (fun _ h9 => h9) rfl dX11_heard_35 ?_
      refine lv_iload_n hx hb dX11_heard_38 rfl (lv_at hl 2 rfl) ?_
      have hin_78 : vp_in f 4 := vpi_of (by omega) (by omega)
      refine va_iald hx hb hK hP 42 0 mw_at60 rfl hin_78 dX11_heard_39 ?_
      refine lv_topi (fun x_79 ex_79 => ?_)
      have hE := bd_at ex_79 hE
      have u_x_79 := congrArg Int32.toInt ex_79
      have r_x_79 := rg_ld (MB_w hI) hin_78 ex_79
      refine lv_icmp_ne (tgt := 71) hx hb dX11_heard_40 (by decide) (fun c_80 => ?_) (fun c_80 => ?_)
      · have t_c_80 := mt Int32.toInt_inj.mp c_80
        have hE := hE.trans (if_neg c_80)
        refine lv_iconst (v := 0) hx hb dX11_heard_71 (by decide) ?_
        refine lv_istore (lv' := [(4, .int 0), (3, .int x_69), (0, .ref h0), (1, .int f), (2, .int kk)]) hx hb dX11_heard_72 hl (by decide) rfl (fun ls hl => ?_)
        exact J_74 mi ma x_69 (0 : Int32) _ _ hP hD hS hI hFI hFA hE ⟨by omega, by omega, by omega, fun h9 => absurd rfl h9⟩ _ (lv_sub hl [2, 3, 4, 1, 0] rfl)
      · have t_c_80 := congrArg Int32.toInt c_80
        have hE := hE.trans (if_pos c_80)
        refine lv_aload_n hx hb dX11_heard_43 rfl (lv_at hl 1 rfl) ?_
        refine va_get (D := D) (ci := 11) (v := .ref (mq 45)) (C := RX11) (T := TX11) (N := 74) hx hb ha inlX11 hown hK hP 0 mw_at0 rfl 45 (by decide) (ha _ kf_X11_103) (fun _ h9 => h9) rfl dX11_heard_44 ?_
        refine lv_iload_n hx hb dX11_heard_47 rfl (lv_at hl 2 rfl) ?_
        have hin_81 : vp_in f 4 := vpi_of (by omega) (by omega)
        refine va_iald hx hb hK hP 27 0 mw_at45 rfl hin_81 dX11_heard_48 ?_
        refine lv_topi (fun x_82 ex_82 => ?_)
        have hE := bd_at ex_82 hE
        have u_x_82 := congrArg Int32.toInt ex_82
        have r_x_82 := rg_ld (MB_nxt hI) hin_81 ex_82
        refine lv_aload_n hx hb dX11_heard_49 rfl (lv_at hl 1 rfl) ?_
        refine va_get (D := D) (ci := 11) (v := .ref (mq 44)) (C := RX11) (T := TX11) (N := 74) hx hb ha inlX11 hown hK hP 0 mw_at0 rfl 44 (by decide) (ha _ kf_X11_100) (fun _ h9 => h9) rfl dX11_heard_50 ?_
        refine lv_iload_n hx hb dX11_heard_53 rfl (lv_at hl 2 rfl) ?_
        have hin_83 : vp_in f 4 := vpi_of (by omega) (by omega)
        refine va_iald hx hb hK hP 26 0 mw_at44 rfl hin_83 dX11_heard_54 ?_
        refine lv_topi (fun x_84 ex_84 => ?_)
        have hE := bd_at ex_84 hE
        have u_x_84 := congrArg Int32.toInt ex_84
        have r_x_84 := rg_ld (MB_una hI) hin_83 ex_84
        refine lv_icmp_le (tgt := 71) hx hb dX11_heard_55 (by decide) (fun c_85 => ?_) (fun c_85 => ?_)
        · have t_c_85 := Int32.le_iff_toInt_le.mp c_85
          have hE := hE.trans (if_pos c_85)
          refine lv_iconst (v := 0) hx hb dX11_heard_71 (by decide) ?_
          refine lv_istore (lv' := [(4, .int 0), (3, .int x_69), (0, .ref h0), (1, .int f), (2, .int kk)]) hx hb dX11_heard_72 hl (by decide) rfl (fun ls hl => ?_)
          exact J_74 mi ma x_69 (0 : Int32) _ _ hP hD hS hI hFI hFA hE ⟨by omega, by omega, by omega, fun h9 => absurd rfl h9⟩ _ (lv_sub hl [2, 3, 4, 1, 0] rfl)
        · have t_c_85 := Int32.lt_iff_toInt_lt.mp (Int32.not_le.mp c_85)
          have hE := hE.trans (if_neg c_85)
          refine lv_aload_n hx hb dX11_heard_58 rfl (lv_at hl 1 rfl) ?_
          refine va_get (D := D) (ci := 11) (v := .ref (mq 24)) (C := RX11) (T := TX11) (N := 74) hx hb ha inlX11 hown hK hP 0 mw_at0 rfl 24 (by decide) (ha _ kf_X11_57) (fun _ h9 => h9) rfl dX11_heard_59 ?_
          refine lv_iload_n hx hb dX11_heard_62 rfl (lv_at hl 3 rfl) ?_
          have hin_86 : vp_in kk 6000 := vpi_of (by omega) (by omega)
          refine va_zald hx hb hK hP 12 2 mw_at24 rfl hin_86 dX11_heard_63 ?_
          refine lv_topi (fun x_87 ex_87 => ?_)
          have hE := bd_at ex_87 hE
          have u_x_87 := congrArg Int32.toInt ex_87
          refine lv_if_eq (tgt := 71) hx hb dX11_heard_64 (by decide) (fun c_88 => ?_) (fun c_88 => ?_)
          · have t_c_88 := congrArg Int32.toInt c_88
            have hE := hE.trans (if_pos c_88)
            refine lv_iconst (v := 0) hx hb dX11_heard_71 (by decide) ?_
            refine lv_istore (lv' := [(4, .int 0), (3, .int x_69), (0, .ref h0), (1, .int f), (2, .int kk)]) hx hb dX11_heard_72 hl (by decide) rfl (fun ls hl => ?_)
            exact J_74 mi ma x_69 (0 : Int32) _ _ hP hD hS hI hFI hFA hE ⟨by omega, by omega, by omega, fun h9 => absurd rfl h9⟩ _ (lv_sub hl [2, 3, 4, 1, 0] rfl)
          · have t_c_88 := mt Int32.toInt_inj.mp c_88
            have hE := hE.trans (if_neg c_88)
            refine lv_iconst (v := 1) hx hb dX11_heard_67 (by decide) ?_
            refine lv_goto (tgt := 72) hx hb dX11_heard_68 (by decide) ?_
            refine lv_istore (lv' := [(4, .int 1), (3, .int x_69), (0, .ref h0), (1, .int f), (2, .int kk)]) hx hb dX11_heard_72 hl (by decide) rfl (fun ls hl => ?_)
            exact J_74 mi ma x_69 (1 : Int32) _ _ hP hD hS hI hFI hFA hE ⟨by omega, by omega, by omega, fun h9 => by omega⟩ _ (lv_sub hl [2, 3, 4, 1, 0] rfl)
  · have t_c_72 := Int32.lt_iff_toInt_lt.mp (Int32.not_le.mp c_72)
    have hE := hE.trans (if_neg c_72)
    exact W.vret hx hb hr (fun t ht hW => ⟨⟨(), rfl, trivial, ⟨mi, ma, ⟨⟨hI, fun k hk => (hFI k hk).trans (by rw [hmi0]), fun k hk => (hFA k hk).trans (by rw [hma0])⟩, _, hRES.symm.trans hE⟩, by rw [ht]; exact hP, va_K.moved hW.alike hK, hD⟩⟩, hS.F ht⟩) hS.2.2 dX11_heard_17

set_option maxRecDepth 100000 in
def xc_root_36 (n1 : Int64) (k_7 : Int64 → Int64 → Int64 → Int32) (j0 : Int64) (j2 : Int64) (j4 : Int64) (j6 : Int64) : Int32 := bd (j4 / (2 : Int64)) (fun w1 => k_7 j0 j2 w1)
set_option maxRecDepth 100000 in
def xc_root_7 (n1 : Int64) : Nat → Int64 → Int64 → Int64 → Int32
  | 0, j0, j2, j4 => (0)
  | fu + 1, j0, j2, j4 => bd (lg_cmp j4 (0 : Int64)) (fun v2 => (if v2 ≤ (0 : Int32) then bd (j2.toInt32) (fun v3 => (v3)) else bd (j2 + j4) (fun w4 => bd (w4 * w4) (fun w5 => bd (w5 * w4) (fun w6 => bd (lg_cmp w6 j0) (fun v7 => (if (0 : Int32) < v7 then xc_root_36 n1 (xc_root_7 n1 fu) j0 j2 j4 w4 else xc_root_36 n1 (xc_root_7 n1 fu) j0 w4 j4 w4)))))))
set_option maxRecDepth 100000 in
def xc_root (n1 : Int64) : Int32 := xc_root_7 n1 ((8192 : Int64).toInt.toNat + 1) n1 (0 : Int64) (8192 : Int64)
set_option maxHeartbeats 4000000 in
set_option maxRecDepth 100000 in
theorem s_root (l : Launch) (D : va_G) (cI cJ cZ cO : ClassId) (sz : Nat) (n1 : Int64) : Met l yX2_cubeRoot (wa yX2_cubeRoot cX2_cubeRoot 8 (some .int)) ({ frames := 0, cells := 0, slots := 0, locals := 0 }) (va_Pc [.long n1] (pw_s D cI cJ cZ cO sz [])) (va_Qi (fun (r : Int32) (_ : Unit) => ((True) ∧ r = (xc_root n1))) (fun (_ : Unit) (t : State) => pw_t D cI cJ cZ cO (va_A [] sz) [] t) (va_A [] sz)) 0 0 (va_A [] sz) := by
  refine Met.ofW (cc := cX2_cubeRoot) (maxL := 8) (ret := (some .int)) (by decide) rfl ?_
  intro p e s m args below meth c s₁ B hml hv
  obtain ⟨rfl, hsz, hP, hK, hD0, hN⟩ := hv
  have hx := B.exec
  have hb := B.bytes
  have hr := B.returns
  have hts := atoms_spec (ws := (wa yX2_cubeRoot cX2_cubeRoot 8 (some .int))) B.pre
  have ha : ∀ w ∈ wsL_law, w.before _ s = true := fun w h => hts w (List.mem_cons_of_mem _ h)
  have hown : s.vm.findClass RX2 = some m.cls := findClass_of_methodNamed B.named
  have hlocks := B.notSynchronized
  subst hsz
  have hD := hD0.self (sz := s.heap.size)
  generalize hAe : va_A [] s.heap.size = A at hD ⊢
  have hA : ∀ q : Nat, s.heap.size ≤ q → A q := fun q h => by rw [← hAe]; exact Or.inr h
  have hS : va_S A s.heap s.heap [] := va_S.rf
  have hP : va_P D vwCl [] s.heap := hP
  have hl := lv_entry ([.long n1]) (n := 8) (Nat.le_of_ble_eq_true rfl)
  rw [lg_entry_eq]
  generalize (lg_sl ([.long n1]) ++ List.replicate (8 - (lg_sl ([.long n1])).length) Slot.unset).toArray = ls at hl ⊢
  have hl : lv_has ls 8 [(0, .long n1)] := hl
  obtain ⟨QP, hQP⟩ : ∃ y : State → Prop, y = (MQ below (va_Qi (fun (r : Int32) (_ : Unit) => ((True) ∧ r = (xc_root n1))) (fun (_ : Unit) (t : State) => pw_t D cI cJ cZ cO A [] t) A) #[(.long n1 : Value)] s 0 0 A) := ⟨_, rfl⟩
  obtain ⟨RES, hRES⟩ : ∃ y, y = (xc_root n1) := ⟨_, rfl⟩
  have L_7 : ∀ (n_7 : Nat), ∀ (H : Heap) (locs : List Loc), va_P D vwCl [] H → va_D A [] → va_S A s.heap H locs → ∀ (j0 : Int64) (j2 : Int64) (j4 : Int64) (ls : Array Slot), lv_has ls 8 [(0, .long j0), (2, .long j2), (4, .long j4)] → RES = xc_root_7 n1 n_7 j0 j2 j4 →  j4.toInt.toNat < n_7 → W p l e ({ frames := 0, cells := 0, slots := 0, locals := 0 }) s m #[(.long n1 : Value)] below meth c H locs 0 0 QP (F0 m 7 ls []) := by
    intro n_7
    induction n_7 with
    | zero => intro  H locs hP hD hS j0 j2 j4 ls hl hE hm; exact absurd hm (Nat.not_lt_zero _)
    | succ n_7 ih_7 =>
      have J_36 : ∀ (H : Heap) (locs : List Loc), va_P D vwCl [] H → va_D A [] → va_S A s.heap H locs → ∀ (j0 : Int64) (j2 : Int64) (j4 : Int64) (j6 : Int64) (ls : Array Slot), lv_has ls 8 [(0, .long j0), (2, .long j2), (4, .long j4), (6, .long j6)] → RES = xc_root_36 n1 (xc_root_7 n1 n_7) j0 j2 j4 j6 → (j4 / 2).toInt.toNat < n_7 → W p l e ({ frames := 0, cells := 0, slots := 0, locals := 0 }) s m #[(.long n1 : Value)] below meth c H locs 0 0 QP (F0 m 36 ls []) := by
        intro  H locs hP hD hS j0 j2 j4 j6 ls hl hE hq_7
        unfold xc_root_36 at hE
        refine lv_lload hx hb dX2_cubeRoot_36 (lv_at hl 2 rfl) ?_
        refine lv_ldc2 (v := 2) hx hb hown (ha _ kj_X2_63) dX2_cubeRoot_38 ?_
        refine lv_ldiv hx hb dX2_cubeRoot_41 (by decide) ?_
        refine lv_topl (fun y_10 ey_10 => ?_)
        have hE := bd_at ey_10 hE
        refine lv_lstore (lv' := [(4, .long y_10), (0, .long j0), (2, .long j2), (6, .long j6)]) hx hb dX2_cubeRoot_42 hl (by decide) rfl (fun ls hl => ?_)
        refine lv_goto (tgt := 7) hx hb dX2_cubeRoot_44 (by decide) ?_
        exact ih_7  _ _ hP hD hS j0 j2 y_10 _ (lv_sub hl [1, 2, 0] rfl) hE (by rw [ey_10]; exact hq_7)
      intro  H locs hP hD hS j0 j2 j4 ls hl hE hm_7
      rw [xc_root_7] at hE
      refine lv_lload hx hb dX2_cubeRoot_7 (lv_at hl 2 rfl) ?_
      refine lv_lconst (v := 0) hx hb dX2_cubeRoot_9 (by decide) ?_
      refine W.lcmp hx hb dX2_cubeRoot_10 ?_
      refine lv_topi (fun x_11 ex_11 => ?_)
      have hE := bd_at ex_11 hE
      refine lv_if_le (tgt := 47) hx hb dX2_cubeRoot_11 (by decide) (fun c_12 => ?_) (fun c_12 => ?_)
      · have hE := hE.trans (if_pos c_12)
        refine lv_lload_n hx hb dX2_cubeRoot_47 rfl (lv_at hl 1 rfl) ?_
        refine lv_l2i hx hb dX2_cubeRoot_48 rfl ?_
        refine lv_topi (fun x_13 ex_13 => ?_)
        have hE := bd_at ex_13 hE
        rw [hQP]
        have hP9 := hP.sub (ws' := []) [] rfl
        have hD9 := hD.sub (ws' := []) [] (by decide) rfl
        exact W.iret (v := x_13) hx hb hr (fun t ht hW => ⟨⟨x_13, (), rfl, ⟨(by decide), (by rw [← hRES, hE])⟩, ⟨by rw [ht]; exact hP9, va_K.moved hW.alike hK, hD9⟩⟩, hS.F ht⟩) hS.2.2 dX2_cubeRoot_49
      · have hE := hE.trans (if_neg c_12)
        refine lv_lload_n hx hb dX2_cubeRoot_14 rfl (lv_at hl 1 rfl) ?_
        refine lv_lload hx hb dX2_cubeRoot_15 (lv_at hl 2 rfl) ?_
        refine lv_ladd hx hb dX2_cubeRoot_17 ?_
        refine lv_topl (fun y_14 ey_14 => ?_)
        have hE := bd_at ey_14 hE
        refine lv_lstore (lv' := [(6, .long y_14), (0, .long j0), (2, .long j2), (4, .long j4)]) hx hb dX2_cubeRoot_18 hl (by decide) rfl (fun ls hl => ?_)
        refine lv_lload hx hb dX2_cubeRoot_20 (lv_at hl 0 rfl) ?_
        refine lv_lload hx hb dX2_cubeRoot_22 (lv_at hl 0 rfl) ?_
        refine lv_lmul hx hb dX2_cubeRoot_24 ?_
        refine lv_topl (fun y_15 ey_15 => ?_)
        have hE := bd_at ey_15 hE
        refine lv_lload hx hb dX2_cubeRoot_25 (lv_at hl 0 rfl) ?_
        refine lv_lmul hx hb dX2_cubeRoot_27 ?_
        refine lv_topl (fun y_16 ey_16 => ?_)
        have hE := bd_at ey_16 hE
        refine lv_lload_n hx hb dX2_cubeRoot_28 rfl (lv_at hl 1 rfl) ?_
        refine W.lcmp hx hb dX2_cubeRoot_29 ?_
        refine lv_topi (fun x_17 ex_17 => ?_)
        have hE := bd_at ex_17 hE
        refine lv_if_gt (tgt := 36) hx hb dX2_cubeRoot_30 (by decide) (fun c_18 => ?_) (fun c_18 => ?_)
        · have hE := hE.trans (if_pos c_18)
          exact J_36  _ _ hP hD hS j0 j2 j4 y_14 _ (lv_sub hl [1, 2, 3, 0] rfl) hE (Nat.lt_of_lt_of_le (sw_half c_12 ex_11 rfl) (Nat.le_of_lt_succ hm_7))
        · have hE := hE.trans (if_neg c_18)
          refine lv_lload hx hb dX2_cubeRoot_33 (lv_at hl 0 rfl) ?_
          refine lv_lstore_n (lv' := [(2, .long y_14), (6, .long y_14), (0, .long j0), (4, .long j4)]) hx hb dX2_cubeRoot_35 rfl hl (by decide) rfl (fun ls hl => ?_)
          exact J_36  _ _ hP hD hS j0 y_14 j4 y_14 _ (lv_sub hl [2, 0, 3, 1] rfl) hE (Nat.lt_of_lt_of_le (sw_half c_12 ex_11 rfl) (Nat.le_of_lt_succ hm_7))
  rw [hQP] at L_7
  -- from the entry
  have hE := hRES
  unfold xc_root at hE
  refine lv_lconst (v := 0) hx hb dX2_cubeRoot_0 (by decide) ?_
  refine lv_lstore_n (lv' := [(2, .long 0), (0, .long n1)]) hx hb dX2_cubeRoot_1 rfl hl (by decide) rfl (fun ls hl => ?_)
  refine lv_ldc2 (v := 8192) hx hb hown (ha _ kj_X2_61) dX2_cubeRoot_2 ?_
  refine lv_lstore (lv' := [(4, .long 8192), (2, .long 0), (0, .long n1)]) hx hb dX2_cubeRoot_5 hl (by decide) rfl (fun ls hl => ?_)
  exact L_7 ((8192 : Int64).toInt.toNat + 1)  _ _ hP hD hS n1 0 8192 _ (lv_sub hl [2, 1, 0] rfl) hE (Nat.lt_succ_self _)

set_option maxRecDepth 100000 in
def xc_closs_20 (n1 : Int32) (cv : Nat → Int32) (i1 : Int32) (s0 : Int32) : (Nat → Int32) × Int32 := bd (upd cv 0 s0) (fun cv => bd (upd cv 2 ((-1) : Int32)) (fun cv => bd (i1 * (7 : Int32)) (fun v1 => bd (v1 / (10 : Int32)) (fun v2 => bd (if (2048 : Int32) < v2 then v2 else (2048 : Int32)) (fun v3 => (cv, v3))))))
set_option maxRecDepth 100000 in
def xc_closs (cv : Nat → Int32) (n1 : Int32) : (Nat → Int32) × Int32 := bd (cv 0) (fun v4 => (if v4 ≤ n1 then xc_closs_20 n1 cv n1 n1 else bd (n1 * (85 : Int32)) (fun v5 => bd (v5 / (100 : Int32)) (fun v6 => xc_closs_20 n1 cv n1 v6))))
set_option maxHeartbeats 4000000 in
set_option maxRecDepth 100000 in
theorem s_closs (l : Launch) (D : va_G) (cI cJ cZ cO : ClassId) (sz : Nat) (h0 : Nat) (cv : Nat → Int32) (n1 : Int32) : Met l yX2_noteLoss (wa yX2_noteLoss cX2_noteLoss 2 (some .int)) ({ frames := 1, cells := 0, slots := 0, locals := 40 }) (va_Pc [.ref h0, .int n1] (pw_s D cI cJ cZ cO sz [(h0, cuC cv)])) (va_Qi (fun (r : Int32) (_ : Unit) => ((True) ∧ r = (xc_closs cv n1).2)) (fun (_ : Unit) (t : State) => ∃ (cv2 : Nat → Int32), (cv2 = (xc_closs cv n1).1) ∧ pw_t D cI cJ cZ cO (va_A [(h0, cuC cv)] sz) [(h0, cuC cv2)] t) (va_A [(h0, cuC cv)] sz)) 0 0 (va_A [(h0, cuC cv)] sz) := by
  refine Met.ofW (cc := cX2_noteLoss) (maxL := 2) (ret := (some .int)) (by decide) rfl ?_
  intro p e s m args below meth c s₁ B hml hv
  obtain ⟨rfl, hsz, hP, hK, hD0, hN⟩ := hv
  have hx := B.exec
  have hb := B.bytes
  have hr := B.returns
  have hts := atoms_spec (ws := (wa yX2_noteLoss cX2_noteLoss 2 (some .int))) B.pre
  have ha : ∀ w ∈ wsL_law, w.before _ s = true := fun w h => hts w (List.mem_cons_of_mem _ h)
  have hown : s.vm.findClass RX2 = some m.cls := findClass_of_methodNamed B.named
  have hlocks := B.notSynchronized
  subst hsz
  have hD := hD0.self (sz := s.heap.size)
  generalize hAe : va_A [(h0, cuC cv)] s.heap.size = A at hD ⊢
  have hA : ∀ q : Nat, s.heap.size ≤ q → A q := fun q h => by rw [← hAe]; exact Or.inr h
  have hS : va_S A s.heap s.heap [] := va_S.rf
  have hP : va_P D vwCl [(h0, cuC cv)] s.heap := hP
  have hl := lv_entry ([.ref h0, .int n1]) (n := 2) (Nat.le_of_ble_eq_true rfl)
  rw [lg_entry_eq]
  generalize (lg_sl ([.ref h0, .int n1]) ++ List.replicate (2 - (lg_sl ([.ref h0, .int n1])).length) Slot.unset).toArray = ls at hl ⊢
  have hl : lv_has ls 2 [(0, .ref h0), (1, .int n1)] := hl
  obtain ⟨QP, hQP⟩ : ∃ y : State → Prop, y = (MQ below (va_Qi (fun (r : Int32) (_ : Unit) => ((True) ∧ r = (xc_closs cv n1).2)) (fun (_ : Unit) (t : State) => ∃ (cv2 : Nat → Int32), (cv2 = (xc_closs cv n1).1) ∧ pw_t D cI cJ cZ cO A [(h0, cuC cv2)] t) A) #[(.ref h0 : Value), (.int n1 : Value)] s 0 0 A) := ⟨_, rfl⟩
  obtain ⟨RES, hRES⟩ : ∃ y, y = (xc_closs cv n1) := ⟨_, rfl⟩
  have J_20 : ∀ (cv : Nat → Int32) (H : Heap) (locs : List Loc), va_P D vwCl [(h0, cuC cv)] H → va_D A [(h0, cuC cv)] → va_S A s.heap H locs → ∀ (i1 : Int32) (s0 : Int32) (ls : Array Slot), lv_has ls 2 [(0, .ref h0), (1, .int i1)] → RES = xc_closs_20 n1 cv i1 s0 → W p l e ({ frames := 1, cells := 0, slots := 0, locals := 40 }) s m #[(.ref h0 : Value), (.int n1 : Value)] below meth c H locs 0 0 QP (F0 m 20 ls [.int s0, .ref h0]) := by
    intro cv H locs hP hD hS i1 s0 ls hl hE
    unfold xc_closs_20 at hE
    refine va_put (D := D) (ci := 2) (v := .int s0) (ty := .int) (C := RX2) (T := TX2) (N := 5) hx hb ha inlX2 tyX2 tyX2_ok nmX2 hown hK hP hD hS 0 rfl rfl 0 (by decide) (ha _ kf_X2_15) (fun _ h9 => h9) rfl (by decide +kernel) rfl rfl (Nat.le_of_ble_eq_true rfl) dX2_noteLoss_20 (fun H locs hP hD hS => ?_)
    have hP : va_P D vwCl [(h0, cuC (upd cv 0 s0))] H := hP
    have hD : va_D A [(h0, cuC (upd cv 0 s0))] := hD
    generalize hg_10 : upd cv 0 s0 = cv at hP hD
    have hE := bs_at hg_10 hE
    refine lv_aload_n hx hb dX2_noteLoss_23 rfl (lv_at hl 0 rfl) ?_
    refine lv_iconst (v := (-1)) hx hb dX2_noteLoss_24 (by decide) ?_
    refine va_put (D := D) (ci := 2) (v := .int (-1)) (ty := .int) (C := RX2) (T := TX2) (N := 5) hx hb ha inlX2 tyX2 tyX2_ok nmX2 hown hK hP hD hS 0 rfl rfl 2 (by decide) (ha _ kf_X2_9) (fun _ h9 => h9) rfl (by decide +kernel) rfl rfl (Nat.le_of_ble_eq_true rfl) dX2_noteLoss_25 (fun H locs hP hD hS => ?_)
    have hP : va_P D vwCl [(h0, cuC (upd cv 2 (-1)))] H := hP
    have hD : va_D A [(h0, cuC (upd cv 2 (-1)))] := hD
    generalize hg_11 : upd cv 2 (-1) = cv at hP hD
    have hE := bs_at hg_11 hE
    refine lv_sipush (v := 2048) hx hb dX2_noteLoss_28 (by decide) ?_
    refine lv_iload_n hx hb dX2_noteLoss_31 rfl (lv_at hl 1 rfl) ?_
    refine lv_bipush (v := 7) hx hb dX2_noteLoss_32 (by decide) ?_
    refine lv_imul hx hb dX2_noteLoss_34 ?_
    refine lv_topi (fun x_12 ex_12 => ?_)
    have hE := bd_at ex_12 hE
    refine lv_bipush (v := 10) hx hb dX2_noteLoss_35 (by decide) ?_
    refine lv_idiv hx hb dX2_noteLoss_37 (by decide) ?_
    refine lv_topi (fun x_13 ex_13 => ?_)
    have hE := bd_at ex_13 hE
    refine va_mmax hx hb (hml.trans hl.1.symm) hown (ha _ kl_X2_18) (ha _ kt_max) (ha _ kz_J9) (ha _ kd_max) (Nat.le_of_ble_eq_true rfl) (Nat.le_of_ble_eq_true rfl) (Nat.le_of_ble_eq_true rfl) (Nat.le_of_ble_eq_true rfl) dX2_noteLoss_38 ?_
    refine lv_topi (fun x_14 ex_14 => ?_)
    have hE := bd_at ex_14 hE
    rw [hQP]
    have hP9 := hP.sub (ws' := [(h0, cuC cv)]) [0] rfl
    have hD9 := hD.sub (ws' := [(h0, cuC cv)]) [0] (by decide) rfl
    exact W.iret (v := x_14) hx hb hr (fun t ht hW => ⟨⟨x_14, (), rfl, ⟨(by decide), (by rw [← hRES, hE])⟩, ⟨cv, (by rw [← hRES, hE]), by rw [ht]; exact hP9, va_K.moved hW.alike hK, hD9⟩⟩, hS.F ht⟩) hS.2.2 dX2_noteLoss_41
  rw [hQP] at J_20
  -- from the entry
  have hE := hRES
  unfold xc_closs at hE
  refine lv_aload_n hx hb dX2_noteLoss_0 rfl (lv_at hl 0 rfl) ?_
  refine lv_iload_n hx hb dX2_noteLoss_1 rfl (lv_at hl 1 rfl) ?_
  refine lv_aload_n hx hb dX2_noteLoss_2 rfl (lv_at hl 0 rfl) ?_
  refine va_get (D := D) (ci := 2) (v := .int (cv 0)) (C := RX2) (T := TX2) (N := 5) hx hb ha inlX2 hown hK hP 0 rfl rfl 0 (by decide) (ha _ kf_X2_15) (fun _ h9 => h9) rfl dX2_noteLoss_3 ?_
  refine lv_topi (fun x_15 ex_15 => ?_)
  have hE := bd_at ex_15 hE
  refine lv_icmp_ge (tgt := 19) hx hb dX2_noteLoss_6 (by decide) (fun c_16 => ?_) (fun c_16 => ?_)
  · have hE := hE.trans (if_pos c_16)
    refine lv_iload_n hx hb dX2_noteLoss_19 rfl (lv_at hl 1 rfl) ?_
    exact J_20 cv _ _ hP hD hS n1 n1 _ (lv_sub hl [0, 1] rfl) hE
  · have hE := hE.trans (if_neg c_16)
    refine lv_iload_n hx hb dX2_noteLoss_9 rfl (lv_at hl 1 rfl) ?_
    refine lv_bipush (v := 85) hx hb dX2_noteLoss_10 (by decide) ?_
    refine lv_imul hx hb dX2_noteLoss_12 ?_
    refine lv_topi (fun x_17 ex_17 => ?_)
    have hE := bd_at ex_17 hE
    refine lv_bipush (v := 100) hx hb dX2_noteLoss_13 (by decide) ?_
    refine lv_idiv hx hb dX2_noteLoss_15 (by decide) ?_
    refine lv_topi (fun x_18 ex_18 => ?_)
    have hE := bd_at ex_18 hE
    refine lv_goto (tgt := 20) hx hb dX2_noteLoss_16 (by decide) ?_
    exact J_20 cv _ _ hP hD hS n1 x_18 _ (lv_sub hl [0, 1] rfl) hE

set_option maxRecDepth 100000 in
def xc_cbegin_36 (n1 : Int32) (n2 : Int32) (cv : Nat → Int32) (i1 : Int32) (i2 : Int32) (s0 : Int32) : (Nat → Int32) := bd (upd cv 1 s0) (fun cv => bd (cv 0) (fun v1 => bd (if v1 < i1 then i1 else v1) (fun v2 => bd (upd cv 3 v2) (fun cv => bd (upd cv 4 i1) (fun cv => (cv))))))
set_option maxRecDepth 100000 in
def xc_cbegin (cv : Nat → Int32) (n1 : Int32) (n2 : Int32) : (Nat → Int32) := bd (upd cv 2 n2) (fun cv => bd (cv 0) (fun v3 => (if v3 ≤ n1 then xc_cbegin_36 n1 n2 cv n1 n2 (0 : Int32) else bd (cv 0) (fun v4 => bd (v4 - n1) (fun v5 => bd (v5.toInt64) (fun w6 => bd (w6 * (2500000000 : Int64)) (fun w7 => bd (w7 / (1024 : Int64)) (fun w8 => bd (xc_root w8) (fun t9 => bd (t9) (fun v10 => xc_cbegin_36 n1 n2 cv n1 n2 v10))))))))))
set_option maxHeartbeats 4000000 in
set_option maxRecDepth 100000 in
theorem s_cbegin (l : Launch) (D : va_G) (cI cJ cZ cO : ClassId) (sz : Nat) (h0 : Nat) (cv : Nat → Int32) (n1 n2 : Int32) : Met l yX2_begin (wa yX2_begin cX2_begin 3 none) ({ frames := 1, cells := 0, slots := 0, locals := 40 }) (va_Pc [.ref h0, .int n1, .int n2] (pw_s D cI cJ cZ cO sz [(h0, cuC cv)])) (va_Qv (fun (_ : Unit) => True) (fun (_ : Unit) (t : State) => ∃ (cv2 : Nat → Int32), (cv2 = (xc_cbegin cv n1 n2)) ∧ pw_t D cI cJ cZ cO (va_A [(h0, cuC cv)] sz) [(h0, cuC cv2)] t) (va_A [(h0, cuC cv)] sz)) 0 0 (va_A [(h0, cuC cv)] sz) := by
  refine Met.ofW (cc := cX2_begin) (maxL := 3) (ret := none) (by decide) rfl ?_
  intro p e s m args below meth c s₁ B hml hv
  obtain ⟨rfl, hsz, hP, hK, hD0, hN⟩ := hv
  have hx := B.exec
  have hb := B.bytes
  have hr := B.returns
  have hts := atoms_spec (ws := (wa yX2_begin cX2_begin 3 none)) B.pre
  have ha : ∀ w ∈ wsL_law, w.before _ s = true := fun w h => hts w (List.mem_cons_of_mem _ h)
  have hown : s.vm.findClass RX2 = some m.cls := findClass_of_methodNamed B.named
  have hlocks := B.notSynchronized
  subst hsz
  have hD := hD0.self (sz := s.heap.size)
  generalize hAe : va_A [(h0, cuC cv)] s.heap.size = A at hD ⊢
  have hA : ∀ q : Nat, s.heap.size ≤ q → A q := fun q h => by rw [← hAe]; exact Or.inr h
  have hS : va_S A s.heap s.heap [] := va_S.rf
  have hP : va_P D vwCl [(h0, cuC cv)] s.heap := hP
  have hl := lv_entry ([.ref h0, .int n1, .int n2]) (n := 3) (Nat.le_of_ble_eq_true rfl)
  rw [lg_entry_eq]
  generalize (lg_sl ([.ref h0, .int n1, .int n2]) ++ List.replicate (3 - (lg_sl ([.ref h0, .int n1, .int n2])).length) Slot.unset).toArray = ls at hl ⊢
  have hl : lv_has ls 3 [(0, .ref h0), (1, .int n1), (2, .int n2)] := hl
  obtain ⟨QP, hQP⟩ : ∃ y : State → Prop, y = (MQ below (va_Qv (fun (_ : Unit) => True) (fun (_ : Unit) (t : State) => ∃ (cv2 : Nat → Int32), (cv2 = (xc_cbegin cv n1 n2)) ∧ pw_t D cI cJ cZ cO A [(h0, cuC cv2)] t) A) #[(.ref h0 : Value), (.int n1 : Value), (.int n2 : Value)] s 0 0 A) := ⟨_, rfl⟩
  obtain ⟨RES, hRES⟩ : ∃ y, y = (xc_cbegin cv n1 n2) := ⟨_, rfl⟩
  have J_36 : ∀ (cv : Nat → Int32) (H : Heap) (locs : List Loc), va_P D vwCl [(h0, cuC cv)] H → va_D A [(h0, cuC cv)] → va_S A s.heap H locs → ∀ (i1 : Int32) (i2 : Int32) (s0 : Int32) (ls : Array Slot), lv_has ls 3 [(0, .ref h0), (1, .int i1), (2, .int i2)] → RES = xc_cbegin_36 n1 n2 cv i1 i2 s0 → W p l e ({ frames := 1, cells := 0, slots := 0, locals := 40 }) s m #[(.ref h0 : Value), (.int n1 : Value), (.int n2 : Value)] below meth c H locs 0 0 QP (F0 m 36 ls [.int s0, .ref h0]) := by
    intro cv H locs hP hD hS i1 i2 s0 ls hl hE
    unfold xc_cbegin_36 at hE
    refine va_put (D := D) (ci := 2) (v := .int s0) (ty := .int) (C := RX2) (T := TX2) (N := 5) hx hb ha inlX2 tyX2 tyX2_ok nmX2 hown hK hP hD hS 0 rfl rfl 1 (by decide) (ha _ kf_X2_30) (fun _ h9 => h9) rfl (by decide +kernel) rfl rfl (Nat.le_of_ble_eq_true rfl) dX2_begin_36 (fun H locs hP hD hS => ?_)
    have hP : va_P D vwCl [(h0, cuC (upd cv 1 s0))] H := hP
    have hD : va_D A [(h0, cuC (upd cv 1 s0))] := hD
    generalize hg_15 : upd cv 1 s0 = cv at hP hD
    have hE := bs_at hg_15 hE
    refine lv_aload_n hx hb dX2_begin_39 rfl (lv_at hl 0 rfl) ?_
    refine lv_aload_n hx hb dX2_begin_40 rfl (lv_at hl 0 rfl) ?_
    refine va_get (D := D) (ci := 2) (v := .int (cv 0)) (C := RX2) (T := TX2) (N := 5) hx hb ha inlX2 hown hK hP 0 rfl rfl 0 (by decide) (ha _ kf_X2_15) (fun _ h9 => h9) rfl dX2_begin_41 ?_
    refine lv_topi (fun x_16 ex_16 => ?_)
    have hE := bd_at ex_16 hE
    refine lv_iload_n hx hb dX2_begin_44 rfl (lv_at hl 1 rfl) ?_
    refine va_mmax hx hb (hml.trans hl.1.symm) hown (ha _ kl_X2_18) (ha _ kt_max) (ha _ kz_J9) (ha _ kd_max) (Nat.le_of_ble_eq_true rfl) (Nat.le_of_ble_eq_true rfl) (Nat.le_of_ble_eq_true rfl) (Nat.le_of_ble_eq_true rfl) dX2_begin_45 ?_
    refine lv_topi (fun x_17 ex_17 => ?_)
    have hE := bd_at ex_17 hE
    refine va_put (D := D) (ci := 2) (v := .int x_17) (ty := .int) (C := RX2) (T := TX2) (N := 5) hx hb ha inlX2 tyX2 tyX2_ok nmX2 hown hK hP hD hS 0 rfl rfl 3 (by decide) (ha _ kf_X2_36) (fun _ h9 => h9) rfl (by decide +kernel) rfl rfl (Nat.le_of_ble_eq_true rfl) dX2_begin_48 (fun H locs hP hD hS => ?_)
    have hP : va_P D vwCl [(h0, cuC (upd cv 3 x_17))] H := hP
    have hD : va_D A [(h0, cuC (upd cv 3 x_17))] := hD
    generalize hg_18 : upd cv 3 x_17 = cv at hP hD
    have hE := bs_at hg_18 hE
    refine lv_aload_n hx hb dX2_begin_51 rfl (lv_at hl 0 rfl) ?_
    refine lv_iload_n hx hb dX2_begin_52 rfl (lv_at hl 1 rfl) ?_
    refine va_put (D := D) (ci := 2) (v := .int i1) (ty := .int) (C := RX2) (T := TX2) (N := 5) hx hb ha inlX2 tyX2 tyX2_ok nmX2 hown hK hP hD hS 0 rfl rfl 4 (by decide) (ha _ kf_X2_48) (fun _ h9 => h9) rfl (by decide +kernel) rfl rfl (Nat.le_of_ble_eq_true rfl) dX2_begin_53 (fun H locs hP hD hS => ?_)
    have hP : va_P D vwCl [(h0, cuC (upd cv 4 i1))] H := hP
    have hD : va_D A [(h0, cuC (upd cv 4 i1))] := hD
    generalize hg_19 : upd cv 4 i1 = cv at hP hD
    have hE := bs_at hg_19 hE
    rw [hQP]
    have hP9 := hP.sub (ws' := [(h0, cuC cv)]) [0] rfl
    have hD9 := hD.sub (ws' := [(h0, cuC cv)]) [0] (by decide) rfl
    exact W.vret hx hb hr (fun t ht hW => ⟨⟨(), rfl, trivial, ⟨cv, (by rw [← hRES, hE]), by rw [ht]; exact hP9, va_K.moved hW.alike hK, hD9⟩⟩, hS.F ht⟩) hS.2.2 dX2_begin_56
  rw [hQP] at J_36
  -- from the entry
  have hE := hRES
  unfold xc_cbegin at hE
  refine lv_aload_n hx hb dX2_begin_0 rfl (lv_at hl 0 rfl) ?_
  refine lv_iload_n hx hb dX2_begin_1 rfl (lv_at hl 2 rfl) ?_
  refine va_put (D := D) (ci := 2) (v := .int n2) (ty := .int) (C := RX2) (T := TX2) (N := 5) hx hb ha inlX2 tyX2 tyX2_ok nmX2 hown hK hP hD hS 0 rfl rfl 2 (by decide) (ha _ kf_X2_9) (fun _ h9 => h9) rfl (by decide +kernel) rfl rfl (Nat.le_of_ble_eq_true rfl) dX2_begin_2 (fun H locs hP hD hS => ?_)
  have hP : va_P D vwCl [(h0, cuC (upd cv 2 n2))] H := hP
  have hD : va_D A [(h0, cuC (upd cv 2 n2))] := hD
  generalize hg_20 : upd cv 2 n2 = cv at hP hD
  have hE := bs_at hg_20 hE
  refine lv_aload_n hx hb dX2_begin_5 rfl (lv_at hl 0 rfl) ?_
  refine lv_iload_n hx hb dX2_begin_6 rfl (lv_at hl 1 rfl) ?_
  refine lv_aload_n hx hb dX2_begin_7 rfl (lv_at hl 0 rfl) ?_
  refine va_get (D := D) (ci := 2) (v := .int (cv 0)) (C := RX2) (T := TX2) (N := 5) hx hb ha inlX2 hown hK hP 0 rfl rfl 0 (by decide) (ha _ kf_X2_15) (fun _ h9 => h9) rfl dX2_begin_8 ?_
  refine lv_topi (fun x_21 ex_21 => ?_)
  have hE := bd_at ex_21 hE
  refine lv_icmp_ge (tgt := 35) hx hb dX2_begin_11 (by decide) (fun c_22 => ?_) (fun c_22 => ?_)
  · have hE := hE.trans (if_pos c_22)
    refine lv_iconst (v := 0) hx hb dX2_begin_35 (by decide) ?_
    exact J_36 cv _ _ hP hD hS n1 n2 0 _ (lv_sub hl [0, 1, 2] rfl) hE
  · have hE := hE.trans (if_neg c_22)
    refine lv_aload_n hx hb dX2_begin_14 rfl (lv_at hl 0 rfl) ?_
    refine va_get (D := D) (ci := 2) (v := .int (cv 0)) (C := RX2) (T := TX2) (N := 5) hx hb ha inlX2 hown hK hP 0 rfl rfl 0 (by decide) (ha _ kf_X2_15) (fun _ h9 => h9) rfl dX2_begin_15 ?_
    refine lv_topi (fun x_23 ex_23 => ?_)
    have hE := bd_at ex_23 hE
    refine lv_iload_n hx hb dX2_begin_18 rfl (lv_at hl 1 rfl) ?_
    refine lv_isub hx hb dX2_begin_19 ?_
    refine lv_topi (fun x_24 ex_24 => ?_)
    have hE := bd_at ex_24 hE
    refine lv_i2l hx hb dX2_begin_20 rfl ?_
    refine lv_topl (fun y_25 ey_25 => ?_)
    have hE := bd_at ey_25 hE
    refine lv_ldc2 (v := 2500000000) hx hb hown (ha _ kj_X2_55) dX2_begin_21 ?_
    refine lv_lmul hx hb dX2_begin_24 ?_
    refine lv_topl (fun y_26 ey_26 => ?_)
    have hE := bd_at ey_26 hE
    refine lv_ldc2 (v := 1024) hx hb hown (ha _ kj_X2_53) dX2_begin_25 ?_
    refine lv_ldiv hx hb dX2_begin_28 (by decide) ?_
    refine lv_topl (fun y_27 ey_27 => ?_)
    have hE := bd_at ey_27 hE
    have hPc := hP.sub (ws' := []) [] rfl
    have hDc := hD.sub (ws' := []) [] (by decide) rfl
    have hFc := va_free (wc := []) hD hS hA [] rfl
    refine va_calli (va_runS (As := [.long y_27]) (rest := [.ref h0]) ⟨hx, hb, hml, hown, ha⟩ (s_root l D cI cJ cZ cO _ y_27) (va_cwS 1 ha (gaS kl_X2_57 kt_X2_cubeRoot kz_X2 kd_X2_cubeRoot) rfl rfl rfl (by decide +kernel) ⟨Nat.le_of_ble_eq_true rfl, Nat.le_of_ble_eq_true rfl⟩) ⟨pw_blind, fun U hU hW => ⟨rfl, pw_start hU hW hPc hK hDc hN⟩⟩ rfl rfl hl.1 rfl (lv_room (Nat.le_of_ble_eq_true rfl)) dX2_begin_29 ⟨Nat.le_of_ble_eq_true rfl, Nat.le_of_ble_eq_true rfl⟩) hS (fun q _ h => hFc q h) hFc (fun r_28 u t H1 locs ht hvm hw hB hz1 hk1 hS => ?_)
    obtain ⟨hP1, hK1, hD1⟩ := hB
    have hE := bd_at rfl hE
    have hE := bd_at hw.2 hE
    rw [ht] at hP1
    obtain ⟨hP, hD⟩ := va_join (wr := [(h0, cuC cv)]) (w1 := []) hP hD [] [0] rfl rfl (by decide) (by decide) hk1 hFc hP1 hD1
    generalize H1 = H at hP hS ⊢
    have hP : va_P D vwCl [(h0, cuC cv)] H := hP
    have hD : va_D A [(h0, cuC cv)] := hD
    refine W.widen (k := 0) (n := 0) (Nat.le_of_ble_eq_true rfl) (Nat.le_of_ble_eq_true rfl) ?_
    have hr_28 := hw.1
    refine lv_goto (tgt := 36) hx hb dX2_begin_32 (by decide) ?_
    exact J_36 cv _ _ hP hD hS n1 n2 r_28 _ (lv_sub hl [0, 1, 2] rfl) hE

set_option maxRecDepth 100000 in
def xc_cgrow_14 (n1 : Int32) (n2 : Int32) (n3 : Int32) (cv : Nat → Int32) (i1 : Int32) (i2 : Int32) (i3 : Int32) : (Nat → Int32) × Int32 := bd (cv 2) (fun v1 => bd (i3 - v1) (fun v2 => bd (i2 / (8 : Int32)) (fun v3 => bd (v2 + v3) (fun v4 => bd (cv 1) (fun v5 => bd (v4 - v5) (fun v6 => bd (if v6 < (100000 : Int32) then v6 else (100000 : Int32)) (fun v7 => bd (if ((-100000) : Int32) < v7 then v7 else ((-100000) : Int32)) (fun v8 => bd (v8.toInt64) (fun w9 => bd (cv 3) (fun v10 => bd (v10.toInt64) (fun w11 => bd (w9 * w9) (fun w12 => bd (w12 * w9) (fun w13 => bd (w13 * (4096 : Int64)) (fun w14 => bd (w14 / (10000000000 : Int64)) (fun w15 => bd (w11 + w15) (fun w16 => bd (i1.toInt64) (fun w17 => bd (i1 * (3 : Int32)) (fun v18 => bd (v18 / (2 : Int32)) (fun v19 => bd (v19.toInt64) (fun w20 => bd (if w20 < w16 then w20 else w16) (fun w21 => bd (if w21 < w17 then w17 else w21) (fun w22 => bd (if (1 : Int32) < i1 then i1 else (1 : Int32)) (fun v23 => bd (v23.toInt64) (fun w24 => bd (cv 4) (fun v25 => bd ((555008 : Int64) / w24) (fun w26 => bd (w26.toInt32) (fun v27 => bd (v25 + v27) (fun v28 => bd (upd cv 4 v28) (fun cv => bd (i1.toInt64) (fun w29 => bd (w22 - w29) (fun w30 => bd (w30 * (1024 : Int64)) (fun w31 => bd (w31 / w24) (fun w32 => bd (if w32 < (1 : Int64) then (1 : Int64) else w32) (fun w33 => bd (w33.toInt32) (fun v34 => bd (i1 + v34) (fun v35 => bd (cv 4) (fun v36 => bd (if v35 < v36 then v36 else v35) (fun v37 => (cv, v37)))))))))))))))))))))))))))))))))))))))
set_option maxRecDepth 100000 in
def xc_cgrow (cv : Nat → Int32) (n1 : Int32) (n2 : Int32) (n3 : Int32) : (Nat → Int32) × Int32 := bd (cv 2) (fun v38 => (if v38 = ((-1) : Int32) then bd (xc_cbegin cv n1 n3) (fun t39 => bd (t39) (fun cv => xc_cgrow_14 n1 n2 n3 cv n1 n2 n3)) else xc_cgrow_14 n1 n2 n3 cv n1 n2 n3))
set_option maxHeartbeats 4000000 in
set_option maxRecDepth 100000 in
theorem s_cgrow (l : Launch) (D : va_G) (cI cJ cZ cO : ClassId) (sz : Nat) (h0 : Nat) (cv : Nat → Int32) (n1 n2 n3 : Int32) : Met l yX2_grow (wa yX2_grow cX2_grow 13 (some .int)) ({ frames := 2, cells := 0, slots := 0, locals := 62 }) (va_Pc [.ref h0, .int n1, .int n2, .int n3] (pw_s D cI cJ cZ cO sz [(h0, cuC cv)])) (va_Qi (fun (r : Int32) (_ : Unit) => ((True) ∧ r = (xc_cgrow cv n1 n2 n3).2)) (fun (_ : Unit) (t : State) => ∃ (cv2 : Nat → Int32), (cv2 = (xc_cgrow cv n1 n2 n3).1) ∧ pw_t D cI cJ cZ cO (va_A [(h0, cuC cv)] sz) [(h0, cuC cv2)] t) (va_A [(h0, cuC cv)] sz)) 0 0 (va_A [(h0, cuC cv)] sz) := by
  refine Met.ofW (cc := cX2_grow) (maxL := 13) (ret := (some .int)) (by decide) rfl ?_
  intro p e s m args below meth c s₁ B hml hv
  obtain ⟨rfl, hsz, hP, hK, hD0, hN⟩ := hv
  have hx := B.exec
  have hb := B.bytes
  have hr := B.returns
  have hts := atoms_spec (ws := (wa yX2_grow cX2_grow 13 (some .int))) B.pre
  have ha : ∀ w ∈ wsL_law, w.before _ s = true := fun w h => hts w (List.mem_cons_of_mem _ h)
  have hown : s.vm.findClass RX2 = some m.cls := findClass_of_methodNamed B.named
  have hlocks := B.notSynchronized
  subst hsz
  have hD := hD0.self (sz := s.heap.size)
  generalize hAe : va_A [(h0, cuC cv)] s.heap.size = A at hD ⊢
  have hA : ∀ q : Nat, s.heap.size ≤ q → A q := fun q h => by rw [← hAe]; exact Or.inr h
  have hS : va_S A s.heap s.heap [] := va_S.rf
  have hP : va_P D vwCl [(h0, cuC cv)] s.heap := hP
  have hl := lv_entry ([.ref h0, .int n1, .int n2, .int n3]) (n := 13) (Nat.le_of_ble_eq_true rfl)
  rw [lg_entry_eq]
  generalize (lg_sl ([.ref h0, .int n1, .int n2, .int n3]) ++ List.replicate (13 - (lg_sl ([.ref h0, .int n1, .int n2, .int n3])).length) Slot.unset).toArray = ls at hl ⊢
  have hl : lv_has ls 13 [(0, .ref h0), (1, .int n1), (2, .int n2), (3, .int n3)] := hl
  obtain ⟨QP, hQP⟩ : ∃ y : State → Prop, y = (MQ below (va_Qi (fun (r : Int32) (_ : Unit) => ((True) ∧ r = (xc_cgrow cv n1 n2 n3).2)) (fun (_ : Unit) (t : State) => ∃ (cv2 : Nat → Int32), (cv2 = (xc_cgrow cv n1 n2 n3).1) ∧ pw_t D cI cJ cZ cO A [(h0, cuC cv2)] t) A) #[(.ref h0 : Value), (.int n1 : Value), (.int n2 : Value), (.int n3 : Value)] s 0 0 A) := ⟨_, rfl⟩
  obtain ⟨RES, hRES⟩ : ∃ y, y = (xc_cgrow cv n1 n2 n3) := ⟨_, rfl⟩
  have J_14 : ∀ (cv : Nat → Int32) (H : Heap) (locs : List Loc), va_P D vwCl [(h0, cuC cv)] H → va_D A [(h0, cuC cv)] → va_S A s.heap H locs → ∀ (i1 : Int32) (i2 : Int32) (i3 : Int32) (ls : Array Slot), lv_has ls 13 [(0, .ref h0), (1, .int i1), (2, .int i2), (3, .int i3)] → RES = xc_cgrow_14 n1 n2 n3 cv i1 i2 i3 → W p l e ({ frames := 2, cells := 0, slots := 0, locals := 62 }) s m #[(.ref h0 : Value), (.int n1 : Value), (.int n2 : Value), (.int n3 : Value)] below meth c H locs 0 0 QP (F0 m 14 ls []) := by
    intro cv H locs hP hD hS i1 i2 i3 ls hl hE
    unfold xc_cgrow_14 at hE
    refine lv_ldc (v := -100000) hx hb hown (ha _ kk_X2_28) dX2_grow_14 ?_
    refine lv_ldc (v := 100000) hx hb hown (ha _ kk_X2_29) dX2_grow_16 ?_
    refine lv_iload_n hx hb dX2_grow_18 rfl (lv_at hl 3 rfl) ?_
    refine lv_aload_n hx hb dX2_grow_19 rfl (lv_at hl 0 rfl) ?_
    refine va_get (D := D) (ci := 2) (v := .int (cv 2)) (C := RX2) (T := TX2) (N := 5) hx hb ha inlX2 hown hK hP 0 rfl rfl 2 (by decide) (ha _ kf_X2_9) (fun _ h9 => h9) rfl dX2_grow_20 ?_
    refine lv_topi (fun x_43 ex_43 => ?_)
    have hE := bd_at ex_43 hE
    refine lv_isub hx hb dX2_grow_23 ?_
    refine lv_topi (fun x_44 ex_44 => ?_)
    have hE := bd_at ex_44 hE
    refine lv_iload_n hx hb dX2_grow_24 rfl (lv_at hl 2 rfl) ?_
    refine lv_bipush (v := 8) hx hb dX2_grow_25 (by decide) ?_
    refine lv_idiv hx hb dX2_grow_27 (by decide) ?_
    refine lv_topi (fun x_45 ex_45 => ?_)
    have hE := bd_at ex_45 hE
    refine lv_iadd hx hb dX2_grow_28 ?_
    refine lv_topi (fun x_46 ex_46 => ?_)
    have hE := bd_at ex_46 hE
    refine lv_aload_n hx hb dX2_grow_29 rfl (lv_at hl 0 rfl) ?_
    refine va_get (D := D) (ci := 2) (v := .int (cv 1)) (C := RX2) (T := TX2) (N := 5) hx hb ha inlX2 hown hK hP 0 rfl rfl 1 (by decide) (ha _ kf_X2_30) (fun _ h9 => h9) rfl dX2_grow_30 ?_
    refine lv_topi (fun x_47 ex_47 => ?_)
    have hE := bd_at ex_47 hE
    refine lv_isub hx hb dX2_grow_33 ?_
    refine lv_topi (fun x_48 ex_48 => ?_)
    have hE := bd_at ex_48 hE
    refine va_mmin hx hb (hml.trans hl.1.symm) hown (ha _ kl_X2_33) (ha _ kt_min) (ha _ kz_J9) (ha _ kd_min) (Nat.le_of_ble_eq_true rfl) (Nat.le_of_ble_eq_true rfl) (Nat.le_of_ble_eq_true rfl) (Nat.le_of_ble_eq_true rfl) dX2_grow_34 ?_
    refine lv_topi (fun x_49 ex_49 => ?_)
    have hE := bd_at ex_49 hE
    refine va_mmax hx hb (hml.trans hl.1.symm) hown (ha _ kl_X2_18) (ha _ kt_max) (ha _ kz_J9) (ha _ kd_max) (Nat.le_of_ble_eq_true rfl) (Nat.le_of_ble_eq_true rfl) (Nat.le_of_ble_eq_true rfl) (Nat.le_of_ble_eq_true rfl) dX2_grow_37 ?_
    refine lv_topi (fun x_50 ex_50 => ?_)
    have hE := bd_at ex_50 hE
    refine lv_i2l hx hb dX2_grow_40 rfl ?_
    refine lv_topl (fun y_51 ey_51 => ?_)
    have hE := bd_at ey_51 hE
    refine lv_lstore (lv' := [(4, .long y_51), (0, .ref h0), (1, .int i1), (2, .int i2), (3, .int i3)]) hx hb dX2_grow_41 hl (by decide) rfl (fun ls hl => ?_)
    refine lv_aload_n hx hb dX2_grow_43 rfl (lv_at hl 1 rfl) ?_
    refine va_get (D := D) (ci := 2) (v := .int (cv 3)) (C := RX2) (T := TX2) (N := 5) hx hb ha inlX2 hown hK hP 0 rfl rfl 3 (by decide) (ha _ kf_X2_36) (fun _ h9 => h9) rfl dX2_grow_44 ?_
    refine lv_topi (fun x_52 ex_52 => ?_)
    have hE := bd_at ex_52 hE
    refine lv_i2l hx hb dX2_grow_47 rfl ?_
    refine lv_topl (fun y_53 ey_53 => ?_)
    have hE := bd_at ey_53 hE
    refine lv_lload hx hb dX2_grow_48 (lv_at hl 0 rfl) ?_
    refine lv_lload hx hb dX2_grow_50 (lv_at hl 0 rfl) ?_
    refine lv_lmul hx hb dX2_grow_52 ?_
    refine lv_topl (fun y_54 ey_54 => ?_)
    have hE := bd_at ey_54 hE
    refine lv_lload hx hb dX2_grow_53 (lv_at hl 0 rfl) ?_
    refine lv_lmul hx hb dX2_grow_55 ?_
    refine lv_topl (fun y_55 ey_55 => ?_)
    have hE := bd_at ey_55 hE
    refine lv_ldc2 (v := 4096) hx hb hown (ha _ kj_X2_39) dX2_grow_56 ?_
    refine lv_lmul hx hb dX2_grow_59 ?_
    refine lv_topl (fun y_56 ey_56 => ?_)
    have hE := bd_at ey_56 hE
    refine lv_ldc2 (v := 10000000000) hx hb hown (ha _ kj_X2_41) dX2_grow_60 ?_
    refine lv_ldiv hx hb dX2_grow_63 (by decide) ?_
    refine lv_topl (fun y_57 ey_57 => ?_)
    have hE := bd_at ey_57 hE
    refine lv_ladd hx hb dX2_grow_64 ?_
    refine lv_topl (fun y_58 ey_58 => ?_)
    have hE := bd_at ey_58 hE
    refine lv_lstore (lv' := [(6, .long y_58), (4, .long y_51), (0, .ref h0), (1, .int i1), (2, .int i2), (3, .int i3)]) hx hb dX2_grow_65 hl (by decide) rfl (fun ls hl => ?_)
    refine lv_iload_n hx hb dX2_grow_67 rfl (lv_at hl 3 rfl) ?_
    refine lv_i2l hx hb dX2_grow_68 rfl ?_
    refine lv_topl (fun y_59 ey_59 => ?_)
    have hE := bd_at ey_59 hE
    refine lv_lload hx hb dX2_grow_69 (lv_at hl 0 rfl) ?_
    refine lv_iload_n hx hb dX2_grow_71 rfl (lv_at hl 3 rfl) ?_
    refine lv_iconst (v := 3) hx hb dX2_grow_72 (by decide) ?_
    refine lv_imul hx hb dX2_grow_73 ?_
    refine lv_topi (fun x_60 ex_60 => ?_)
    have hE := bd_at ex_60 hE
    refine lv_iconst (v := 2) hx hb dX2_grow_74 (by decide) ?_
    refine lv_idiv hx hb dX2_grow_75 (by decide) ?_
    refine lv_topi (fun x_61 ex_61 => ?_)
    have hE := bd_at ex_61 hE
    refine lv_i2l hx hb dX2_grow_76 rfl ?_
    refine lv_topl (fun y_62 ey_62 => ?_)
    have hE := bd_at ey_62 hE
    refine va_mmin_long hx hb (hml.trans hl.1.symm) hown (ha _ kl_X2_43) (ha _ kt_lmin) (ha _ kz_J9) (ha _ kd_lmin) (Nat.le_of_ble_eq_true rfl) (Nat.le_of_ble_eq_true rfl) (Nat.le_of_ble_eq_true rfl) (Nat.le_of_ble_eq_true rfl) dX2_grow_77 ?_
    refine lv_topl (fun y_63 ey_63 => ?_)
    have hE := bd_at ey_63 hE
    refine va_mmax_long hx hb (hml.trans hl.1.symm) hown (ha _ kl_X2_46) (ha _ kt_lmax) (ha _ kz_J9) (ha _ kd_lmax) (Nat.le_of_ble_eq_true rfl) (Nat.le_of_ble_eq_true rfl) (Nat.le_of_ble_eq_true rfl) (Nat.le_of_ble_eq_true rfl) dX2_grow_80 ?_
    refine lv_topl (fun y_64 ey_64 => ?_)
    have hE := bd_at ey_64 hE
    refine lv_lstore (lv' := [(8, .long y_64), (6, .long y_58), (4, .long y_51), (0, .ref h0), (1, .int i1), (2, .int i2), (3, .int i3)]) hx hb dX2_grow_83 hl (by decide) rfl (fun ls hl => ?_)
    refine lv_iconst (v := 1) hx hb dX2_grow_85 (by decide) ?_
    refine lv_iload_n hx hb dX2_grow_86 rfl (lv_at hl 4 rfl) ?_
    refine va_mmax hx hb (hml.trans hl.1.symm) hown (ha _ kl_X2_18) (ha _ kt_max) (ha _ kz_J9) (ha _ kd_max) (Nat.le_of_ble_eq_true rfl) (Nat.le_of_ble_eq_true rfl) (Nat.le_of_ble_eq_true rfl) (Nat.le_of_ble_eq_true rfl) dX2_grow_87 ?_
    refine lv_topi (fun x_65 ex_65 => ?_)
    have hE := bd_at ex_65 hE
    have nz_x_65 : ¬ x_65 = 0 := sw_mx1 ex_65
    refine lv_i2l hx hb dX2_grow_90 rfl ?_
    refine lv_topl (fun y_66 ey_66 => ?_)
    have hE := bd_at ey_66 hE
    have nz_y_66 : ¬ y_66 = 0 := sw_nzl nz_x_65 ey_66
    refine lv_lstore (lv' := [(10, .long y_66), (8, .long y_64), (6, .long y_58), (4, .long y_51), (0, .ref h0), (1, .int i1), (2, .int i2), (3, .int i3)]) hx hb dX2_grow_91 hl (by decide) rfl (fun ls hl => ?_)
    refine lv_aload_n hx hb dX2_grow_93 rfl (lv_at hl 4 rfl) ?_
    refine lv_dup hx hb dX2_grow_94 rfl ?_
    refine va_get (D := D) (ci := 2) (v := .int (cv 4)) (C := RX2) (T := TX2) (N := 5) hx hb ha inlX2 hown hK hP 0 rfl rfl 4 (by decide) (ha _ kf_X2_48) (fun _ h9 => h9) rfl dX2_grow_95 ?_
    refine lv_topi (fun x_67 ex_67 => ?_)
    have hE := bd_at ex_67 hE
    refine lv_ldc2 (v := 555008) hx hb hown (ha _ kj_X2_51) dX2_grow_98 ?_
    refine lv_lload hx hb dX2_grow_101 (lv_at hl 0 rfl) ?_
    refine lv_ldiv hx hb dX2_grow_103 nz_y_66 ?_
    refine lv_topl (fun y_68 ey_68 => ?_)
    have hE := bd_at ey_68 hE
    refine lv_l2i hx hb dX2_grow_104 rfl ?_
    refine lv_topi (fun x_69 ex_69 => ?_)
    have hE := bd_at ex_69 hE
    refine lv_iadd hx hb dX2_grow_105 ?_
    refine lv_topi (fun x_70 ex_70 => ?_)
    have hE := bd_at ex_70 hE
    refine va_put (D := D) (ci := 2) (v := .int x_70) (ty := .int) (C := RX2) (T := TX2) (N := 5) hx hb ha inlX2 tyX2 tyX2_ok nmX2 hown hK hP hD hS 0 rfl rfl 4 (by decide) (ha _ kf_X2_48) (fun _ h9 => h9) rfl (by decide +kernel) rfl rfl (Nat.le_of_ble_eq_true rfl) dX2_grow_106 (fun H locs hP hD hS => ?_)
    have hP : va_P D vwCl [(h0, cuC (upd cv 4 x_70))] H := hP
    have hD : va_D A [(h0, cuC (upd cv 4 x_70))] := hD
    generalize hg_71 : upd cv 4 x_70 = cv at hP hD
    have hE := bs_at hg_71 hE
    refine lv_iload_n hx hb dX2_grow_109 rfl (lv_at hl 5 rfl) ?_
    refine lv_lconst (v := 1) hx hb dX2_grow_110 (by decide) ?_
    refine lv_lload hx hb dX2_grow_111 (lv_at hl 1 rfl) ?_
    refine lv_iload_n hx hb dX2_grow_113 rfl (lv_at hl 5 rfl) ?_
    refine lv_i2l hx hb dX2_grow_114 rfl ?_
    refine lv_topl (fun y_72 ey_72 => ?_)
    have hE := bd_at ey_72 hE
    refine lv_lsub hx hb dX2_grow_115 ?_
    refine lv_topl (fun y_73 ey_73 => ?_)
    have hE := bd_at ey_73 hE
    refine lv_ldc2 (v := 1024) hx hb hown (ha _ kj_X2_53) dX2_grow_116 ?_
    refine lv_lmul hx hb dX2_grow_119 ?_
    refine lv_topl (fun y_74 ey_74 => ?_)
    have hE := bd_at ey_74 hE
    refine lv_lload hx hb dX2_grow_120 (lv_at hl 0 rfl) ?_
    refine lv_ldiv hx hb dX2_grow_122 nz_y_66 ?_
    refine lv_topl (fun y_75 ey_75 => ?_)
    have hE := bd_at ey_75 hE
    refine va_mmax_long hx hb (hml.trans hl.1.symm) hown (ha _ kl_X2_46) (ha _ kt_lmax) (ha _ kz_J9) (ha _ kd_lmax) (Nat.le_of_ble_eq_true rfl) (Nat.le_of_ble_eq_true rfl) (Nat.le_of_ble_eq_true rfl) (Nat.le_of_ble_eq_true rfl) dX2_grow_123 ?_
    refine lv_topl (fun y_76 ey_76 => ?_)
    have hE := bd_at ey_76 hE
    refine lv_l2i hx hb dX2_grow_126 rfl ?_
    refine lv_topi (fun x_77 ex_77 => ?_)
    have hE := bd_at ex_77 hE
    refine lv_iadd hx hb dX2_grow_127 ?_
    refine lv_topi (fun x_78 ex_78 => ?_)
    have hE := bd_at ex_78 hE
    refine lv_istore (lv' := [(12, .int x_78), (10, .long y_66), (8, .long y_64), (6, .long y_58), (4, .long y_51), (0, .ref h0), (1, .int i1), (2, .int i2), (3, .int i3)]) hx hb dX2_grow_128 hl (by decide) rfl (fun ls hl => ?_)
    refine lv_iload hx hb dX2_grow_130 (lv_at hl 0 rfl) ?_
    refine lv_aload_n hx hb dX2_grow_132 rfl (lv_at hl 5 rfl) ?_
    refine va_get (D := D) (ci := 2) (v := .int (cv 4)) (C := RX2) (T := TX2) (N := 5) hx hb ha inlX2 hown hK hP 0 rfl rfl 4 (by decide) (ha _ kf_X2_48) (fun _ h9 => h9) rfl dX2_grow_133 ?_
    refine lv_topi (fun x_79 ex_79 => ?_)
    have hE := bd_at ex_79 hE
    refine va_mmax hx hb (hml.trans hl.1.symm) hown (ha _ kl_X2_18) (ha _ kt_max) (ha _ kz_J9) (ha _ kd_max) (Nat.le_of_ble_eq_true rfl) (Nat.le_of_ble_eq_true rfl) (Nat.le_of_ble_eq_true rfl) (Nat.le_of_ble_eq_true rfl) dX2_grow_136 ?_
    refine lv_topi (fun x_80 ex_80 => ?_)
    have hE := bd_at ex_80 hE
    rw [hQP]
    have hP9 := hP.sub (ws' := [(h0, cuC cv)]) [0] rfl
    have hD9 := hD.sub (ws' := [(h0, cuC cv)]) [0] (by decide) rfl
    exact W.iret (v := x_80) hx hb hr (fun t ht hW => ⟨⟨x_80, (), rfl, ⟨(by decide), (by rw [← hRES, hE])⟩, ⟨cv, (by rw [← hRES, hE]), by rw [ht]; exact hP9, va_K.moved hW.alike hK, hD9⟩⟩, hS.F ht⟩) hS.2.2 dX2_grow_139
  rw [hQP] at J_14
  -- from the entry
  have hE := hRES
  unfold xc_cgrow at hE
  refine lv_aload_n hx hb dX2_grow_0 rfl (lv_at hl 0 rfl) ?_
  refine va_get (D := D) (ci := 2) (v := .int (cv 2)) (C := RX2) (T := TX2) (N := 5) hx hb ha inlX2 hown hK hP 0 rfl rfl 2 (by decide) (ha _ kf_X2_9) (fun _ h9 => h9) rfl dX2_grow_1 ?_
  refine lv_topi (fun x_81 ex_81 => ?_)
  have hE := bd_at ex_81 hE
  refine lv_iconst (v := (-1)) hx hb dX2_grow_4 (by decide) ?_
  refine lv_icmp_ne (tgt := 14) hx hb dX2_grow_5 (by decide) (fun c_82 => ?_) (fun c_82 => ?_)
  · have hE := hE.trans (if_neg c_82)
    exact J_14 cv _ _ hP hD hS n1 n2 n3 _ (lv_sub hl [0, 1, 2, 3] rfl) hE
  · have hE := hE.trans (if_pos c_82)
    refine lv_aload_n hx hb dX2_grow_8 rfl (lv_at hl 0 rfl) ?_
    refine lv_iload_n hx hb dX2_grow_9 rfl (lv_at hl 1 rfl) ?_
    refine lv_iload_n hx hb dX2_grow_10 rfl (lv_at hl 3 rfl) ?_
    have hPc := hP.sub (ws' := [(h0, cuC cv)]) [0] rfl
    have hDc := hD.sub (ws' := [(h0, cuC cv)]) [0] (by decide) rfl
    have hFc := va_free (wc := [(h0, cuC cv)]) hD hS hA [0] rfl
    refine va_callv (va_runV (As := [.int n1, .int n3]) (rest := []) ⟨hx, hb, hml, hown, ha⟩ (s_cbegin l D cI cJ cZ cO _ h0 cv n1 n3) (cwV 2 ha (gaV kl_X2_24 km_X2_begin ks_X2_begin kz_X2 kd_X2_begin) rfl rfl rfl (by decide +kernel) ⟨Nat.le_of_ble_eq_true rfl, Nat.le_of_ble_eq_true rfl⟩) ⟨pw_blind, va_recv hK hPc (ci := 2) (q0 := 0) rfl rfl, fun U hU hW => ⟨rfl, pw_start hU hW hPc hK hDc hN⟩⟩ rfl rfl hl.1 rfl (lv_room (Nat.le_of_ble_eq_true rfl)) dX2_grow_11 ⟨Nat.le_of_ble_eq_true rfl, Nat.le_of_ble_eq_true rfl⟩) hS (fun q _ h => hFc q h) hFc (fun u t H1 locs ht hvm hw hB hz1 hk1 hS => ?_)
    obtain ⟨cv, hX0, hP1, hK1, hD1⟩ := hB
    have hE := bd_at rfl hE
    have hE := bd_at hX0 hE
    rw [ht] at hP1
    obtain ⟨hP, hD⟩ := va_join (wr := []) (w1 := [(h0, cuC cv)]) hP hD [0] [] rfl rfl (by decide) (by decide) hk1 hFc hP1 hD1
    generalize H1 = H at hP hS ⊢
    have hP : va_P D vwCl [(h0, cuC cv)] H := hP
    have hD : va_D A [(h0, cuC cv)] := hD
    refine W.widen (k := 0) (n := 0) (Nat.le_of_ble_eq_true rfl) (Nat.le_of_ble_eq_true rfl) ?_
    exact J_14 cv _ _ hP hD hS n1 n2 n3 _ (lv_sub hl [0, 1, 2, 3] rfl) hE

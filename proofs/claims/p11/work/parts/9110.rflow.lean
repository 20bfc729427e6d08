theorem upd_back {mi : Nat → Int32} {v F : Int32} (e : F = mi 32) : upd (upd mi 32 v) 32 F = mi := funext fun j => by
  show (if j = 32 then F else if j = 32 then v else mi j) = mi j
  by_cases q : j = 32
  · rw [if_pos q, e, q]
  · rw [if_neg q, if_neg q]
theorem up_self {g : Nat → Int32} {i : Nat} {v : Int32} : upd g i v i = v := if_pos rfl
theorem fw_more {F G : Int32} {f : Nat → Int32} {n : Nat} (h : fw F f n) (hg : F.toInt ≤ G.toInt) : fw G f n := fun k hk => by
  have := h k hk
  omega
theorem ge1_more {F G : Int32} {g : Nat → Int32} (h : ge1 F g) (h0 : 0 ≤ F.toInt) (hg : G.toInt = F.toInt + 1) (h1 : 1 ≤ (g F.toNatClampNeg).toInt) : ge1 G g := fun f hf => by
  have c := cl_toInt h0
  by_cases q : f = F.toNatClampNeg
  · rw [q]; exact h1
  · exact h f (by omega)
theorem MB_more {mi : Nat → Int32} {ma : Nat → Nat → Int32} {F : Int32} (h : MB (upd mi 32 F) ma) (h0 : 0 ≤ F.toInt) (h1 : F.toInt < 4) (h2 : (mi 32).toInt = F.toInt + 1) (h3 : 1 ≤ (ma 47 F.toNatClampNeg).toInt) (h4 : 1 ≤ (ma 48 F.toNatClampNeg).toInt) : MB mi ma := ⟨⟨by omega, by omega⟩, h.2.1, h.2.2.1, h.2.2.2.1, h.2.2.2.2.1, h.2.2.2.2.2.1, h.2.2.2.2.2.2.1, h.2.2.2.2.2.2.2.1, h.2.2.2.2.2.2.2.2.1, h.2.2.2.2.2.2.2.2.2.1, h.2.2.2.2.2.2.2.2.2.2.1, h.2.2.2.2.2.2.2.2.2.2.2.1, h.2.2.2.2.2.2.2.2.2.2.2.2.1, h.2.2.2.2.2.2.2.2.2.2.2.2.2.1, h.2.2.2.2.2.2.2.2.2.2.2.2.2.2.1, h.2.2.2.2.2.2.2.2.2.2.2.2.2.2.2.1, h.2.2.2.2.2.2.2.2.2.2.2.2.2.2.2.2.1, h.2.2.2.2.2.2.2.2.2.2.2.2.2.2.2.2.2.1, h.2.2.2.2.2.2.2.2.2.2.2.2.2.2.2.2.2.2.1, h.2.2.2.2.2.2.2.2.2.2.2.2.2.2.2.2.2.2.2.1, h.2.2.2.2.2.2.2.2.2.2.2.2.2.2.2.2.2.2.2.2.1, h.2.2.2.2.2.2.2.2.2.2.2.2.2.2.2.2.2.2.2.2.2.1, h.2.2.2.2.2.2.2.2.2.2.2.2.2.2.2.2.2.2.2.2.2.2.1, h.2.2.2.2.2.2.2.2.2.2.2.2.2.2.2.2.2.2.2.2.2.2.2.1, h.2.2.2.2.2.2.2.2.2.2.2.2.2.2.2.2.2.2.2.2.2.2.2.2.1, h.2.2.2.2.2.2.2.2.2.2.2.2.2.2.2.2.2.2.2.2.2.2.2.2.2.1, fw_more (F := F) (MB_linkFlow h) (by omega), fw_more (F := F) (MB_wayFlow h) (by omega), fw_more (F := F) (MB_ackFlow h) (by omega), h.2.2.2.2.2.2.2.2.2.2.2.2.2.2.2.2.2.2.2.2.2.2.2.2.2.2.2.2.2.1, h.2.2.2.2.2.2.2.2.2.2.2.2.2.2.2.2.2.2.2.2.2.2.2.2.2.2.2.2.2.2.1, ge1_more (F := F) (MB_ge1c h) h0 h2 h3, ge1_more (F := F) (MB_ge1s h) h0 h2 h4, h.2.2.2.2.2.2.2.2.2.2.2.2.2.2.2.2.2.2.2.2.2.2.2.2.2.2.2.2.2.2.2.2.2.1, fun q => by have q2 : (mi 32).toInt = 0 := q; omega⟩
/-- the flow that is made, if one is: its number; how many there are then -/
def rfw (F k : Int32) : Int32 := if F = 4 then -1 else if wi k 0 3 = 0 then -1 else F
def rfn (F k : Int32) : Int32 := if F = 4 then F else if wi k 0 3 = 0 then F else F + 1
def rfm (F : Int32) (wn : Nat → Int32) (k : Int32) : Nat → Int32 := if F = 4 then wn else if wi k 0 3 = 0 then wn else upd wn F.toNatClampNeg 40

set_option maxRecDepth 100000 in
def x_flow (kk : Int32) (pb : Int32) (mi : Nat → Int32) (ma : Nat → Nat → Int32) : XT := bd (mi 32) (fun v1 => (if v1 = (4 : Int32) then (mi, ma, ((-1) : Int32)) else bd (wi kk (0 : Int32) (3 : Int32)) (fun v2 => (if v2 = (0 : Int32) then (mi, ma, ((-1) : Int32)) else bd (mi 32) (fun v3 => bd (mi 32) (fun v4 => bd (v4 + (1 : Int32)) (fun v5 => bd (upd mi 32 v5) (fun m6 => bd (va_up ma 33 (upd (ma 33) v3.toNatClampNeg (vp_nar .boolean pb))) (fun a7 => bd (va_up a7 35 (upd (a7 35) v3.toNatClampNeg (40 : Int32))) (fun a8 => bd (va_up a8 40 (upd (a8 40) v3.toNatClampNeg ((-1) : Int32))) (fun a9 => bd (va_up a9 42 (upd (a9 42) v3.toNatClampNeg kk)) (fun a10 => bd (va_up a10 47 (upd (a10 47) v3.toNatClampNeg (2048 : Int32))) (fun a11 => bd (va_up a11 68 (upd (a11 68) v3.toNatClampNeg (2048 : Int32))) (fun a12 => bd (va_up a12 48 (upd (a12 48) v3.toNatClampNeg (1048576 : Int32))) (fun a13 => bd (va_up a13 49 (upd (a13 49) v3.toNatClampNeg (1000 : Int32))) (fun a14 => bd (va_up a14 60 (upd (a14 60) v3.toNatClampNeg (40 : Int32))) (fun a15 => bd (va_up a15 61 (upd (a15 61) v3.toNatClampNeg ((-1) : Int32))) (fun a16 => bd (va_up a16 67 (upd (a16 67) v3.toNatClampNeg ((-1) : Int32))) (fun a17 => bd (va_up a17 69 (upd (a17 69) v3.toNatClampNeg ((-1) : Int32))) (fun a18 => bd (va_up a18 56 (upd (a18 56) v3.toNatClampNeg ((-1) : Int32))) (fun a19 => (m6, a19, v3))))))))))))))))))))))
set_option maxHeartbeats 4000000 in
set_option maxRecDepth 100000 in
theorem m_flow (l : Launch) (D : va_G) (cI cJ cZ cO : ClassId) (sz : Nat) (h0 : Nat) (mq : Nat → Nat) (mi : Nat → Int32) (ma : Nat → Nat → Int32) (ph : Nat) (cl : Int) (kk pb : Int32) (hI : MB mi ma) (hU : (DW ph (mi 4) (mi 10) (mi 11) (mi 12) (ma 13) ∧ DA ph cl (mi 4) (mi 10) (mi 11) (mi 17) (mi 18) (mi 19) (ma 20) (ma 40) (ma 41))) : Met l yX11_flow (wa yX11_flow cX11_flow 4 (some .int)) ({ frames := 1, cells := 0, slots := 0, locals := 22 }) (va_Pc [.ref h0, .int kk, .int pb] (pw_s D cI cJ cZ cO sz (mw cI cZ h0 mq mi ma))) (va_Qi (fun (r : Int32) (_ : Unit) => ((r = rfw (mi 32) kk) ∧ r = (x_flow kk pb mi ma).2.2)) (fun (_ : Unit) (t : State) => ∃ (mi2 : Nat → Int32) (ma2 : Nat → Nat → Int32), ((MB mi2 ma2 ∧ (∀ k, k ∉ ([32] : List Nat) → mi2 k = mi k) ∧ (∀ k, k ∉ ([33, 35, 40, 42, 47, 68, 48, 49, 60, 61, 67, 69, 56] : List Nat) → ma2 k = ma k) ∧ ((DW ph (mi2 4) (mi2 10) (mi2 11) (mi2 12) (ma2 13) ∧ DA ph cl (mi2 4) (mi2 10) (mi2 11) (mi2 17) (mi2 18) (mi2 19) (ma2 20) (ma2 40) (ma2 41)) ∧ mi2 32 = rfn (mi 32) kk ∧ ma2 35 = rfm (mi 32) (ma 35) kk)) ∧ mi2 = (x_flow kk pb mi ma).1 ∧ ma2 = (x_flow kk pb mi ma).2.1) ∧ pw_t D cI cJ cZ cO (va_A (mw cI cZ h0 mq mi ma) sz) (mw cI cZ h0 mq mi2 ma2) t) (va_A (mw cI cZ h0 mq mi ma) sz)) 0 0 (va_A (mw cI cZ h0 mq mi ma) sz) := by
  refine Met.ofW (cc := cX11_flow) (maxL := 4) (ret := (some .int)) (by decide) rfl ?_
  intro p e s m args below meth c s₁ B hml hv
  obtain ⟨rfl, hsz, hP, hK, hD0, hN⟩ := hv
  have hx := B.exec
  have hb := B.bytes
  have hr := B.returns
  have hts := atoms_spec (ws := (wa yX11_flow cX11_flow 4 (some .int))) B.pre
  have ha : ∀ w ∈ wsL_law, w.before _ s = true := fun w h => hts w (List.mem_cons_of_mem _ h)
  have hown : s.vm.findClass RX11 = some m.cls := findClass_of_methodNamed B.named
  have hlocks := B.notSynchronized
  subst hsz
  have hD := hD0.self (sz := s.heap.size)
  generalize hAe : va_A (mw cI cZ h0 mq mi ma) s.heap.size = A at hD ⊢
  have hA : ∀ q : Nat, s.heap.size ≤ q → A q := fun q h => by rw [← hAe]; exact Or.inr h
  have hS : va_S A s.heap s.heap [] := va_S.rf
  have hP : va_P D vwCl (mw cI cZ h0 mq mi ma) s.heap := hP
  have hl := lv_entry ([.ref h0, .int kk, .int pb]) (n := 4) (Nat.le_of_ble_eq_true rfl)
  rw [lg_entry_eq]
  generalize (lg_sl ([.ref h0, .int kk, .int pb]) ++ List.replicate (4 - (lg_sl ([.ref h0, .int kk, .int pb])).length) Slot.unset).toArray = ls at hl ⊢
  have hl : lv_has ls 4 [(0, .ref h0), (1, .int kk), (2, .int pb)] := hl
  have kc_m1 := tk_m1
  have kc_0 := tk_0
  have kc_1 := tk_1
  have kc_3 := tk_3
  have kc_4 := tk_4
  have kc_40 := tk_40
  have kc_1000 := tk_1000
  have kc_2048 := tk_2048
  have kc_1048576 := tk_1048576
  obtain ⟨mi0, hmi0⟩ : ∃ y, y = mi := ⟨_, rfl⟩
  obtain ⟨ma0, hma0⟩ : ∃ y, y = ma := ⟨_, rfl⟩
  have hFI : ∀ k, k ∉ ([32] : List Nat) → mi k = mi0 k := fun k _ => by rw [hmi0]
  have hFA : ∀ k, k ∉ ([33, 35, 40, 42, 47, 68, 48, 49, 60, 61, 67, 69, 56] : List Nat) → ma k = ma0 k := fun k _ => by rw [hma0]
  obtain ⟨QP, hQP⟩ : ∃ y : State → Prop, y = (MQ below (va_Qi (fun (r : Int32) (_ : Unit) => ((r = rfw (mi 32) kk) ∧ r = (x_flow kk pb mi ma).2.2)) (fun (_ : Unit) (t : State) => ∃ (mi2 : Nat → Int32) (ma2 : Nat → Nat → Int32), ((MB mi2 ma2 ∧ (∀ k, k ∉ ([32] : List Nat) → mi2 k = mi k) ∧ (∀ k, k ∉ ([33, 35, 40, 42, 47, 68, 48, 49, 60, 61, 67, 69, 56] : List Nat) → ma2 k = ma k) ∧ ((DW ph (mi2 4) (mi2 10) (mi2 11) (mi2 12) (ma2 13) ∧ DA ph cl (mi2 4) (mi2 10) (mi2 11) (mi2 17) (mi2 18) (mi2 19) (ma2 20) (ma2 40) (ma2 41)) ∧ mi2 32 = rfn (mi 32) kk ∧ ma2 35 = rfm (mi 32) (ma 35) kk)) ∧ mi2 = (x_flow kk pb mi ma).1 ∧ ma2 = (x_flow kk pb mi ma).2.1) ∧ pw_t D cI cJ cZ cO A (mw cI cZ h0 mq mi2 ma2) t) A) #[(.ref h0 : Value), (.int kk : Value), (.int pb : Value)] s 0 0 A) := ⟨_, rfl⟩
  obtain ⟨RES, hRES⟩ : ∃ y, y = (x_flow kk pb mi ma) := ⟨_, rfl⟩
  -- from the entry
  have hE := hRES
  unfold x_flow at hE
  refine lv_aload_n hx hb dX11_flow_0 rfl (lv_at hl 0 rfl) ?_
  refine va_get (D := D) (ci := 11) (v := .int (mi 32)) (C := RX11) (T := TX11) (N := 74) hx hb ha inlX11 hown hK hP 0 mw_at0 rfl 32 (by decide) (ha _ kf_X11_191) (fun _ h9 => h9) rfl dX11_flow_1 ?_
  refine lv_topi (fun x_1 ex_1 => ?_)
  have hE := bd_at ex_1 hE
  have u_x_1 := congrArg Int32.toInt ex_1
  have r_x_1 := MB_flows hI
  rw [← ex_1] at r_x_1
  refine lv_iconst (v := 4) hx hb dX11_flow_4 (by decide) ?_
  refine lv_icmp_eq (tgt := 17) hx hb dX11_flow_5 (by decide) (fun c_2 => ?_) (fun c_2 => ?_)
  · have t_c_2 := congrArg Int32.toInt c_2
    have hE := hE.trans (if_pos c_2)
    refine lv_iconst (v := (-1)) hx hb dX11_flow_17 (by decide) ?_
    exact W.iret (v := (-1)) hx hb hr (fun t ht hW => ⟨⟨(-1), (), rfl, ⟨by simp [rfw, ← ex_1, c_2], by rw [← hRES, hE]⟩, ⟨mi, ma, ⟨⟨hI, fun k hk => (hFI k hk).trans (by rw [hmi0]), fun k hk => (hFA k hk).trans (by rw [hma0]), ⟨hU, by simp [rfn, ← ex_1, c_2], by simp [rfm, ← ex_1, c_2]⟩⟩, by rw [← hRES, hE], by rw [← hRES, hE]⟩, by rw [ht]; exact hP, va_K.moved hW.alike hK, hD⟩⟩, hS.F ht⟩) hS.2.2 dX11_flow_18
  · have t_c_2 := mt Int32.toInt_inj.mp c_2
    have hE := hE.trans (if_neg c_2)
    refine lv_iload_n hx hb dX11_flow_8 rfl (lv_at hl 1 rfl) ?_
    refine lv_iconst (v := 0) hx hb dX11_flow_9 (by decide) ?_
    refine lv_iconst (v := 3) hx hb dX11_flow_10 (by decide) ?_
    have hFc := va_free (wc := []) hD hS hA [] rfl
    refine va_calli (va_runS (As := [.int kk, .int 0, .int 3]) (rest := []) ⟨hx, hb, hml, hown, ha⟩ (c_in l D cI cJ cZ cO _ kk 0 3) (va_cwS 3 ha (gaS kl_X11_187 kt_X11_in kz_X11 kd_X11_in) rfl rfl rfl (by decide +kernel) ⟨Nat.le_of_ble_eq_true rfl, Nat.le_of_ble_eq_true rfl⟩) ⟨pw_blind, fun U hU hW => ⟨rfl, pw_start hU hW pw_P0 hK (pw_D0 (A := A)) hN⟩⟩ rfl rfl hl.1 rfl (lv_room (Nat.le_of_ble_eq_true rfl)) dX11_flow_11 ⟨Nat.le_of_ble_eq_true rfl, Nat.le_of_ble_eq_true rfl⟩) hS (fun q _ h => hFc q h) hFc (fun r_3 u t H1 locs ht hvm hw hB hz1 hk1 hS => ?_)
    have hP := va_keep0 hP hk1
    generalize H1 = H at hP hS ⊢
    refine W.widen (k := 0) (n := 0) (Nat.le_refl _) (Nat.le_refl _) ?_
    have hr_3 : r_3 = wi kk 0 3 := hw
    have hE := bd_at hr_3 hE
    refine lv_if_ne (tgt := 19) hx hb dX11_flow_14 (by decide) (fun c_4 => ?_) (fun c_4 => ?_)
    · have t_c_4 := mt Int32.toInt_inj.mp c_4
      have hE := hE.trans (if_neg c_4)
      have w_r_3 := wi_ti (by rw [← hr_3]; exact c_4)
      refine lv_aload_n hx hb dX11_flow_19 rfl (lv_at hl 0 rfl) ?_
      refine va_get (D := D) (ci := 11) (v := .int (mi 32)) (C := RX11) (T := TX11) (N := 74) hx hb ha inlX11 hown hK hP 0 mw_at0 rfl 32 (by decide) (ha _ kf_X11_191) (fun _ h9 => h9) rfl dX11_flow_20 ?_
      refine lv_topi (fun x_5 ex_5 => ?_)
      have hE := bd_at ex_5 hE
      have u_x_5 := congrArg Int32.toInt ex_5
      have r_x_5 := MB_flows hI
      rw [← ex_5] at r_x_5
      refine lv_istore_n (lv' := [(3, .int x_5), (0, .ref h0), (1, .int kk), (2, .int pb)]) hx hb dX11_flow_23 rfl hl (by decide) rfl (fun ls hl => ?_)
      refine lv_aload_n hx hb dX11_flow_24 rfl (lv_at hl 1 rfl) ?_
      refine lv_dup hx hb dX11_flow_25 rfl ?_
      refine va_get (D := D) (ci := 11) (v := .int (mi 32)) (C := RX11) (T := TX11) (N := 74) hx hb ha inlX11 hown hK hP 0 mw_at0 rfl 32 (by decide) (ha _ kf_X11_191) (fun _ h9 => h9) rfl dX11_flow_26 ?_
      refine lv_topi (fun x_6 ex_6 => ?_)
      have hE := bd_at ex_6 hE
      have u_x_6 := congrArg Int32.toInt ex_6
      have r_x_6 := MB_flows hI
      rw [← ex_6] at r_x_6
      refine lv_iconst (v := 1) hx hb dX11_flow_29 (by decide) ?_
      refine lv_iadd hx hb dX11_flow_30 ?_
      refine lv_topi (fun x_7 ex_7 => ?_)
      have hE := bd_at ex_7 hE
      try have t_x_7 := ti_add ex_7 (by omega) (by omega)
      refine va_put (D := D) (ci := 11) (v := .int x_7) (ty := .int) (C := RX11) (T := TX11) (N := 74) hx hb ha inlX11 tyX11 tyX11_ok nmX11 hown hK hP hD hS 0 mw_at0 rfl 32 (by decide) (ha _ kf_X11_191) (fun _ h9 => h9) rfl (by decide +kernel) rfl rfl (Nat.le_of_ble_eq_true rfl) dX11_flow_31 (fun H locs hP hD hS => ?_)
      have hP : va_P D vwCl (mw cI cZ h0 mq (upd mi 32 x_7) ma) H := mwP_32 hP
      have hD : va_D A (mw cI cZ h0 mq (upd mi 32 x_7) ma) := mwD_32 hD
      generalize hmi_8 : upd mi 32 x_7 = mi_8 at hP hD
      have hI : MB (upd mi_8 32 x_5) ma := by rw [← hmi_8]; exact (by rw [upd_back ex_5]; exact hI)
      have hFI : ∀ k, k ∉ ([32] : List Nat) → mi_8 k = mi0 k := fun k hk => by rw [← hmi_8]; exact (if_neg (fun e => hk (by rw [e]; decide))).trans (hFI k hk)
      have hE := bs_at hmi_8 hE
      refine lv_aload_n hx hb dX11_flow_34 rfl (lv_at hl 1 rfl) ?_
      refine va_get (D := D) (ci := 11) (v := .ref (mq 33)) (C := RX11) (T := TX11) (N := 74) hx hb ha inlX11 hown hK hP 0 mw_at0 rfl 33 (by decide) (ha _ kf_X11_67) (fun _ h9 => h9) rfl dX11_flow_35 ?_
      refine lv_iload_n hx hb dX11_flow_38 rfl (lv_at hl 0 rfl) ?_
      refine lv_iload_n hx hb dX11_flow_39 rfl (lv_at hl 3 rfl) ?_
      have hin_9 : vp_in x_5 4 := vpi_of (by omega) (by omega)
      refine va_zast hx hb hK hP hD hS 15 2 mw_at33 rfl hin_9 dX11_flow_40 (fun H locs hP hD hS => ?_)
      have hP : va_P D vwCl (mw cI cZ h0 mq mi_8 (va_up ma 33 (upd (ma 33) x_5.toNatClampNeg (vp_nar .boolean pb)))) H := mwP_33 hP
      have hD : va_D A (mw cI cZ h0 mq mi_8 (va_up ma 33 (upd (ma 33) x_5.toNatClampNeg (vp_nar .boolean pb)))) := mwD_33 hD
      generalize hma_10 : va_up ma 33 (upd (ma 33) x_5.toNatClampNeg (vp_nar .boolean pb)) = ma_10 at hP hD
      have hI : MB (upd mi_8 32 x_5) ma_10 := by rw [← hma_10]; exact MBa_isLate hI
      have hFA : ∀ k, k ∉ ([33, 35, 40, 42, 47, 68, 48, 49, 60, 61, 67, 69, 56] : List Nat) → ma_10 k = ma0 k := fun k hk => by rw [← hma_10]; exact (va_up_ne _ _ (fun e => hk (by rw [e]; decide))).trans (hFA k hk)
      have hE := bs_at hma_10 hE
      refine lv_aload_n hx hb dX11_flow_41 rfl (lv_at hl 1 rfl) ?_
      refine va_get (D := D) (ci := 11) (v := .ref (mq 35)) (C := RX11) (T := TX11) (N := 74) hx hb ha inlX11 hown hK hP 0 mw_at0 rfl 35 (by decide) (ha _ kf_X11_73) (fun _ h9 => h9) rfl dX11_flow_42 ?_
      refine lv_iload_n hx hb dX11_flow_45 rfl (lv_at hl 0 rfl) ?_
      refine lv_bipush (v := 40) hx hb dX11_flow_46 (by decide) ?_
      have hin_11 : vp_in x_5 4 := vpi_of (by omega) (by omega)
      refine va_iast hx hb hK hP hD hS 17 0 mw_at35 rfl hin_11 dX11_flow_48 (fun H locs hP hD hS => ?_)
      have hP : va_P D vwCl (mw cI cZ h0 mq mi_8 (va_up ma_10 35 (upd (ma_10 35) x_5.toNatClampNeg (40 : Int32)))) H := mwP_35 hP
      have hD : va_D A (mw cI cZ h0 mq mi_8 (va_up ma_10 35 (upd (ma_10 35) x_5.toNatClampNeg (40 : Int32)))) := mwD_35 hD
      generalize hma_12 : va_up ma_10 35 (upd (ma_10 35) x_5.toNatClampNeg (40 : Int32)) = ma_12 at hP hD
      have hI : MB (upd mi_8 32 x_5) ma_12 := by rw [← hma_12]; exact MBa_window hI (by omega) (by omega)
      have hFA : ∀ k, k ∉ ([33, 35, 40, 42, 47, 68, 48, 49, 60, 61, 67, 69, 56] : List Nat) → ma_12 k = ma0 k := fun k hk => by rw [← hma_12]; exact (va_up_ne _ _ (fun e => hk (by rw [e]; decide))).trans (hFA k hk)
      have hE := bs_at hma_12 hE
      refine lv_aload_n hx hb dX11_flow_49 rfl (lv_at hl 1 rfl) ?_
      refine va_get (D := D) (ci := 11) (v := .ref (mq 40)) (C := RX11) (T := TX11) (N := 74) hx hb ha inlX11 hown hK hP 0 mw_at0 rfl 40 (by decide) (ha _ kf_X11_88) (fun _ h9 => h9) rfl dX11_flow_50 ?_
      refine lv_iload_n hx hb dX11_flow_53 rfl (lv_at hl 0 rfl) ?_
      refine lv_iconst (v := (-1)) hx hb dX11_flow_54 (by decide) ?_
      have hin_13 : vp_in x_5 4 := vpi_of (by omega) (by omega)
      refine va_iast hx hb hK hP hD hS 22 0 mw_at40 rfl hin_13 dX11_flow_55 (fun H locs hP hD hS => ?_)
      have hP : va_P D vwCl (mw cI cZ h0 mq mi_8 (va_up ma_12 40 (upd (ma_12 40) x_5.toNatClampNeg ((-1) : Int32)))) H := mwP_40 hP
      have hD : va_D A (mw cI cZ h0 mq mi_8 (va_up ma_12 40 (upd (ma_12 40) x_5.toNatClampNeg ((-1) : Int32)))) := mwD_40 hD
      generalize hma_14 : va_up ma_12 40 (upd (ma_12 40) x_5.toNatClampNeg ((-1) : Int32)) = ma_14 at hP hD
      have hI : MB (upd mi_8 32 x_5) ma_14 := by rw [← hma_14]; exact MBa_owed hI
      have hFA : ∀ k, k ∉ ([33, 35, 40, 42, 47, 68, 48, 49, 60, 61, 67, 69, 56] : List Nat) → ma_14 k = ma0 k := fun k hk => by rw [← hma_14]; exact (va_up_ne _ _ (fun e => hk (by rw [e]; decide))).trans (hFA k hk)
      have hE := bs_at hma_14 hE
      refine lv_aload_n hx hb dX11_flow_56 rfl (lv_at hl 1 rfl) ?_
      refine va_get (D := D) (ci := 11) (v := .ref (mq 42)) (C := RX11) (T := TX11) (N := 74) hx hb ha inlX11 hown hK hP 0 mw_at0 rfl 42 (by decide) (ha _ kf_X11_94) (fun _ h9 => h9) rfl dX11_flow_57 ?_
      refine lv_iload_n hx hb dX11_flow_60 rfl (lv_at hl 0 rfl) ?_
      refine lv_iload_n hx hb dX11_flow_61 rfl (lv_at hl 2 rfl) ?_
      have hin_15 : vp_in x_5 4 := vpi_of (by omega) (by omega)
      refine va_iast hx hb hK hP hD hS 24 0 mw_at42 rfl hin_15 dX11_flow_62 (fun H locs hP hD hS => ?_)
      have hP : va_P D vwCl (mw cI cZ h0 mq mi_8 (va_up ma_14 42 (upd (ma_14 42) x_5.toNatClampNeg kk))) H := mwP_42 hP
      have hD : va_D A (mw cI cZ h0 mq mi_8 (va_up ma_14 42 (upd (ma_14 42) x_5.toNatClampNeg kk))) := mwD_42 hD
      generalize hma_16 : va_up ma_14 42 (upd (ma_14 42) x_5.toNatClampNeg kk) = ma_16 at hP hD
      have hI : MB (upd mi_8 32 x_5) ma_16 := by rw [← hma_16]; exact MBa_kind hI
      have hFA : ∀ k, k ∉ ([33, 35, 40, 42, 47, 68, 48, 49, 60, 61, 67, 69, 56] : List Nat) → ma_16 k = ma0 k := fun k hk => by rw [← hma_16]; exact (va_up_ne _ _ (fun e => hk (by rw [e]; decide))).trans (hFA k hk)
      have hE := bs_at hma_16 hE
      refine lv_aload_n hx hb dX11_flow_63 rfl (lv_at hl 1 rfl) ?_
      refine va_get (D := D) (ci := 11) (v := .ref (mq 47)) (C := RX11) (T := TX11) (N := 74) hx hb ha inlX11 hown hK hP 0 mw_at0 rfl 47 (by decide) (ha _ kf_X11_109) (fun _ h9 => h9) rfl dX11_flow_64 ?_
      refine lv_iload_n hx hb dX11_flow_67 rfl (lv_at hl 0 rfl) ?_
      refine lv_sipush (v := 2048) hx hb dX11_flow_68 (by decide) ?_
      have hin_17 : vp_in x_5 4 := vpi_of (by omega) (by omega)
      refine va_iast hx hb hK hP hD hS 29 0 mw_at47 rfl hin_17 dX11_flow_71 (fun H locs hP hD hS => ?_)
      have hP : va_P D vwCl (mw cI cZ h0 mq mi_8 (va_up ma_16 47 (upd (ma_16 47) x_5.toNatClampNeg (2048 : Int32)))) H := mwP_47 hP
      have hD : va_D A (mw cI cZ h0 mq mi_8 (va_up ma_16 47 (upd (ma_16 47) x_5.toNatClampNeg (2048 : Int32)))) := mwD_47 hD
      generalize hma_18 : va_up ma_16 47 (upd (ma_16 47) x_5.toNatClampNeg (2048 : Int32)) = ma_18 at hP hD
      have hI : MB (upd mi_8 32 x_5) ma_18 := by rw [← hma_18]; exact MBa_cwnd hI (by omega) (by omega)
      have hFA : ∀ k, k ∉ ([33, 35, 40, 42, 47, 68, 48, 49, 60, 61, 67, 69, 56] : List Nat) → ma_18 k = ma0 k := fun k hk => by rw [← hma_18]; exact (va_up_ne _ _ (fun e => hk (by rw [e]; decide))).trans (hFA k hk)
      have hE := bs_at hma_18 hE
      refine lv_aload_n hx hb dX11_flow_72 rfl (lv_at hl 1 rfl) ?_
      refine va_get (D := D) (ci := 11) (v := .ref (mq 68)) (C := RX11) (T := TX11) (N := 74) hx hb ha inlX11 hown hK hP 0 mw_at0 rfl 68 (by decide) (ha _ kf_X11_172) (fun _ h9 => h9) rfl dX11_flow_73 ?_
      refine lv_iload_n hx hb dX11_flow_76 rfl (lv_at hl 0 rfl) ?_
      refine lv_sipush (v := 2048) hx hb dX11_flow_77 (by decide) ?_
      have hin_19 : vp_in x_5 4 := vpi_of (by omega) (by omega)
      refine va_iast hx hb hK hP hD hS 50 0 mw_at68 rfl hin_19 dX11_flow_80 (fun H locs hP hD hS => ?_)
      have hP : va_P D vwCl (mw cI cZ h0 mq mi_8 (va_up ma_18 68 (upd (ma_18 68) x_5.toNatClampNeg (2048 : Int32)))) H := mwP_68 hP
      have hD : va_D A (mw cI cZ h0 mq mi_8 (va_up ma_18 68 (upd (ma_18 68) x_5.toNatClampNeg (2048 : Int32)))) := mwD_68 hD
      generalize hma_20 : va_up ma_18 68 (upd (ma_18 68) x_5.toNatClampNeg (2048 : Int32)) = ma_20 at hP hD
      have hI : MB (upd mi_8 32 x_5) ma_20 := by rw [← hma_20]; exact MBa_greatest hI
      have hFA : ∀ k, k ∉ ([33, 35, 40, 42, 47, 68, 48, 49, 60, 61, 67, 69, 56] : List Nat) → ma_20 k = ma0 k := fun k hk => by rw [← hma_20]; exact (va_up_ne _ _ (fun e => hk (by rw [e]; decide))).trans (hFA k hk)
      have hE := bs_at hma_20 hE
      refine lv_aload_n hx hb dX11_flow_81 rfl (lv_at hl 1 rfl) ?_
      refine va_get (D := D) (ci := 11) (v := .ref (mq 48)) (C := RX11) (T := TX11) (N := 74) hx hb ha inlX11 hown hK hP 0 mw_at0 rfl 48 (by decide) (ha _ kf_X11_112) (fun _ h9 => h9) rfl dX11_flow_82 ?_
      refine lv_iload_n hx hb dX11_flow_85 rfl (lv_at hl 0 rfl) ?_
      refine lv_ldc (v := 1048576) hx hb hown (ha _ kk_X11_194) dX11_flow_86 ?_
      have hin_21 : vp_in x_5 4 := vpi_of (by omega) (by omega)
      refine va_iast hx hb hK hP hD hS 30 0 mw_at48 rfl hin_21 dX11_flow_88 (fun H locs hP hD hS => ?_)
      have hP : va_P D vwCl (mw cI cZ h0 mq mi_8 (va_up ma_20 48 (upd (ma_20 48) x_5.toNatClampNeg (1048576 : Int32)))) H := mwP_48 hP
      have hD : va_D A (mw cI cZ h0 mq mi_8 (va_up ma_20 48 (upd (ma_20 48) x_5.toNatClampNeg (1048576 : Int32)))) := mwD_48 hD
      generalize hma_22 : va_up ma_20 48 (upd (ma_20 48) x_5.toNatClampNeg (1048576 : Int32)) = ma_22 at hP hD
      have hI : MB (upd mi_8 32 x_5) ma_22 := by rw [← hma_22]; exact MBa_ssthresh hI (by omega) (by omega)
      have hFA : ∀ k, k ∉ ([33, 35, 40, 42, 47, 68, 48, 49, 60, 61, 67, 69, 56] : List Nat) → ma_22 k = ma0 k := fun k hk => by rw [← hma_22]; exact (va_up_ne _ _ (fun e => hk (by rw [e]; decide))).trans (hFA k hk)
      have hE := bs_at hma_22 hE
      refine lv_aload_n hx hb dX11_flow_89 rfl (lv_at hl 1 rfl) ?_
      refine va_get (D := D) (ci := 11) (v := .ref (mq 49)) (C := RX11) (T := TX11) (N := 74) hx hb ha inlX11 hown hK hP 0 mw_at0 rfl 49 (by decide) (ha _ kf_X11_115) (fun _ h9 => h9) rfl dX11_flow_90 ?_
      refine lv_iload_n hx hb dX11_flow_93 rfl (lv_at hl 0 rfl) ?_
      refine lv_sipush (v := 1000) hx hb dX11_flow_94 (by decide) ?_
      have hin_23 : vp_in x_5 4 := vpi_of (by omega) (by omega)
      refine va_iast hx hb hK hP hD hS 31 0 mw_at49 rfl hin_23 dX11_flow_97 (fun H locs hP hD hS => ?_)
      have hP : va_P D vwCl (mw cI cZ h0 mq mi_8 (va_up ma_22 49 (upd (ma_22 49) x_5.toNatClampNeg (1000 : Int32)))) H := mwP_49 hP
      have hD : va_D A (mw cI cZ h0 mq mi_8 (va_up ma_22 49 (upd (ma_22 49) x_5.toNatClampNeg (1000 : Int32)))) := mwD_49 hD
      generalize hma_24 : va_up ma_22 49 (upd (ma_22 49) x_5.toNatClampNeg (1000 : Int32)) = ma_24 at hP hD
      have hI : MB (upd mi_8 32 x_5) ma_24 := by rw [← hma_24]; exact MBa_rto hI
      have hFA : ∀ k, k ∉ ([33, 35, 40, 42, 47, 68, 48, 49, 60, 61, 67, 69, 56] : List Nat) → ma_24 k = ma0 k := fun k hk => by rw [← hma_24]; exact (va_up_ne _ _ (fun e => hk (by rw [e]; decide))).trans (hFA k hk)
      have hE := bs_at hma_24 hE
      refine lv_aload_n hx hb dX11_flow_98 rfl (lv_at hl 1 rfl) ?_
      refine va_get (D := D) (ci := 11) (v := .ref (mq 60)) (C := RX11) (T := TX11) (N := 74) hx hb ha inlX11 hown hK hP 0 mw_at0 rfl 60 (by decide) (ha _ kf_X11_148) (fun _ h9 => h9) rfl dX11_flow_99 ?_
      refine lv_iload_n hx hb dX11_flow_102 rfl (lv_at hl 0 rfl) ?_
      refine lv_bipush (v := 40) hx hb dX11_flow_103 (by decide) ?_
      have hin_25 : vp_in x_5 4 := vpi_of (by omega) (by omega)
      refine va_iast hx hb hK hP hD hS 42 0 mw_at60 rfl hin_25 dX11_flow_105 (fun H locs hP hD hS => ?_)
      have hP : va_P D vwCl (mw cI cZ h0 mq mi_8 (va_up ma_24 60 (upd (ma_24 60) x_5.toNatClampNeg (40 : Int32)))) H := mwP_60 hP
      have hD : va_D A (mw cI cZ h0 mq mi_8 (va_up ma_24 60 (upd (ma_24 60) x_5.toNatClampNeg (40 : Int32)))) := mwD_60 hD
      generalize hma_26 : va_up ma_24 60 (upd (ma_24 60) x_5.toNatClampNeg (40 : Int32)) = ma_26 at hP hD
      have hI : MB (upd mi_8 32 x_5) ma_26 := by rw [← hma_26]; exact MBa_w hI (by omega) (by omega)
      have hFA : ∀ k, k ∉ ([33, 35, 40, 42, 47, 68, 48, 49, 60, 61, 67, 69, 56] : List Nat) → ma_26 k = ma0 k := fun k hk => by rw [← hma_26]; exact (va_up_ne _ _ (fun e => hk (by rw [e]; decide))).trans (hFA k hk)
      have hE := bs_at hma_26 hE
      refine lv_aload_n hx hb dX11_flow_106 rfl (lv_at hl 1 rfl) ?_
      refine va_get (D := D) (ci := 11) (v := .ref (mq 61)) (C := RX11) (T := TX11) (N := 74) hx hb ha inlX11 hown hK hP 0 mw_at0 rfl 61 (by decide) (ha _ kf_X11_151) (fun _ h9 => h9) rfl dX11_flow_107 ?_
      refine lv_iload_n hx hb dX11_flow_110 rfl (lv_at hl 0 rfl) ?_
      refine lv_iconst (v := (-1)) hx hb dX11_flow_111 (by decide) ?_
      have hin_27 : vp_in x_5 4 := vpi_of (by omega) (by omega)
      refine va_iast hx hb hK hP hD hS 43 0 mw_at61 rfl hin_27 dX11_flow_112 (fun H locs hP hD hS => ?_)
      have hP : va_P D vwCl (mw cI cZ h0 mq mi_8 (va_up ma_26 61 (upd (ma_26 61) x_5.toNatClampNeg ((-1) : Int32)))) H := mwP_61 hP
      have hD : va_D A (mw cI cZ h0 mq mi_8 (va_up ma_26 61 (upd (ma_26 61) x_5.toNatClampNeg ((-1) : Int32)))) := mwD_61 hD
      generalize hma_28 : va_up ma_26 61 (upd (ma_26 61) x_5.toNatClampNeg ((-1) : Int32)) = ma_28 at hP hD
      have hI : MB (upd mi_8 32 x_5) ma_28 := by rw [← hma_28]; exact MBa_timer hI
      have hFA : ∀ k, k ∉ ([33, 35, 40, 42, 47, 68, 48, 49, 60, 61, 67, 69, 56] : List Nat) → ma_28 k = ma0 k := fun k hk => by rw [← hma_28]; exact (va_up_ne _ _ (fun e => hk (by rw [e]; decide))).trans (hFA k hk)
      have hE := bs_at hma_28 hE
      refine lv_aload_n hx hb dX11_flow_113 rfl (lv_at hl 1 rfl) ?_
      refine va_get (D := D) (ci := 11) (v := .ref (mq 67)) (C := RX11) (T := TX11) (N := 74) hx hb ha inlX11 hown hK hP 0 mw_at0 rfl 67 (by decide) (ha _ kf_X11_169) (fun _ h9 => h9) rfl dX11_flow_114 ?_
      refine lv_iload_n hx hb dX11_flow_117 rfl (lv_at hl 0 rfl) ?_
      refine lv_iconst (v := (-1)) hx hb dX11_flow_118 (by decide) ?_
      have hin_29 : vp_in x_5 4 := vpi_of (by omega) (by omega)
      refine va_iast hx hb hK hP hD hS 49 0 mw_at67 rfl hin_29 dX11_flow_119 (fun H locs hP hD hS => ?_)
      have hP : va_P D vwCl (mw cI cZ h0 mq mi_8 (va_up ma_28 67 (upd (ma_28 67) x_5.toNatClampNeg ((-1) : Int32)))) H := mwP_67 hP
      have hD : va_D A (mw cI cZ h0 mq mi_8 (va_up ma_28 67 (upd (ma_28 67) x_5.toNatClampNeg ((-1) : Int32)))) := mwD_67 hD
      generalize hma_30 : va_up ma_28 67 (upd (ma_28 67) x_5.toNatClampNeg ((-1) : Int32)) = ma_30 at hP hD
      have hI : MB (upd mi_8 32 x_5) ma_30 := by rw [← hma_30]; exact MBa_epoch hI
      have hFA : ∀ k, k ∉ ([33, 35, 40, 42, 47, 68, 48, 49, 60, 61, 67, 69, 56] : List Nat) → ma_30 k = ma0 k := fun k hk => by rw [← hma_30]; exact (va_up_ne _ _ (fun e => hk (by rw [e]; decide))).trans (hFA k hk)
      have hE := bs_at hma_30 hE
      refine lv_aload_n hx hb dX11_flow_120 rfl (lv_at hl 1 rfl) ?_
      refine va_get (D := D) (ci := 11) (v := .ref (mq 69)) (C := RX11) (T := TX11) (N := 74) hx hb ha inlX11 hown hK hP 0 mw_at0 rfl 69 (by decide) (ha _ kf_X11_175) (fun _ h9 => h9) rfl dX11_flow_121 ?_
      refine lv_iload_n hx hb dX11_flow_124 rfl (lv_at hl 0 rfl) ?_
      refine lv_iconst (v := (-1)) hx hb dX11_flow_125 (by decide) ?_
      have hin_31 : vp_in x_5 4 := vpi_of (by omega) (by omega)
      refine va_iast hx hb hK hP hD hS 51 0 mw_at69 rfl hin_31 dX11_flow_126 (fun H locs hP hD hS => ?_)
      have hP : va_P D vwCl (mw cI cZ h0 mq mi_8 (va_up ma_30 69 (upd (ma_30 69) x_5.toNatClampNeg ((-1) : Int32)))) H := mwP_69 hP
      have hD : va_D A (mw cI cZ h0 mq mi_8 (va_up ma_30 69 (upd (ma_30 69) x_5.toNatClampNeg ((-1) : Int32)))) := mwD_69 hD
      generalize hma_32 : va_up ma_30 69 (upd (ma_30 69) x_5.toNatClampNeg ((-1) : Int32)) = ma_32 at hP hD
      have hI : MB (upd mi_8 32 x_5) ma_32 := by rw [← hma_32]; exact MBa_measured hI
      have hFA : ∀ k, k ∉ ([33, 35, 40, 42, 47, 68, 48, 49, 60, 61, 67, 69, 56] : List Nat) → ma_32 k = ma0 k := fun k hk => by rw [← hma_32]; exact (va_up_ne _ _ (fun e => hk (by rw [e]; decide))).trans (hFA k hk)
      have hE := bs_at hma_32 hE
      refine lv_aload_n hx hb dX11_flow_127 rfl (lv_at hl 1 rfl) ?_
      refine va_get (D := D) (ci := 11) (v := .ref (mq 56)) (C := RX11) (T := TX11) (N := 74) hx hb ha inlX11 hown hK hP 0 mw_at0 rfl 56 (by decide) (ha _ kf_X11_136) (fun _ h9 => h9) rfl dX11_flow_128 ?_
      refine lv_iload_n hx hb dX11_flow_131 rfl (lv_at hl 0 rfl) ?_
      refine lv_iconst (v := (-1)) hx hb dX11_flow_132 (by decide) ?_
      have hin_33 : vp_in x_5 4 := vpi_of (by omega) (by omega)
      refine va_iast hx hb hK hP hD hS 38 0 mw_at56 rfl hin_33 dX11_flow_133 (fun H locs hP hD hS => ?_)
      have hP : va_P D vwCl (mw cI cZ h0 mq mi_8 (va_up ma_32 56 (upd (ma_32 56) x_5.toNatClampNeg ((-1) : Int32)))) H := mwP_56 hP
      have hD : va_D A (mw cI cZ h0 mq mi_8 (va_up ma_32 56 (upd (ma_32 56) x_5.toNatClampNeg ((-1) : Int32)))) := mwD_56 hD
      generalize hma_34 : va_up ma_32 56 (upd (ma_32 56) x_5.toNatClampNeg ((-1) : Int32)) = ma_34 at hP hD
      have hI : MB (upd mi_8 32 x_5) ma_34 := by rw [← hma_34]; exact MBa_began hI
      have hFA : ∀ k, k ∉ ([33, 35, 40, 42, 47, 68, 48, 49, 60, 61, 67, 69, 56] : List Nat) → ma_34 k = ma0 k := fun k hk => by rw [← hma_34]; exact (va_up_ne _ _ (fun e => hk (by rw [e]; decide))).trans (hFA k hk)
      have hE := bs_at hma_34 hE
      refine lv_iload_n hx hb dX11_flow_134 rfl (lv_at hl 0 rfl) ?_
      have z32 : mi_8 32 = x_7 := ((congrFun hmi_8 32).symm)
      have zc : ma_34 47 = (upd (ma_16 47) x_5.toNatClampNeg (2048 : Int32)) := ((mu_ne (k := 56) (j := 47) hma_34 (by decide))).trans (((mu_ne (k := 69) (j := 47) hma_32 (by decide))).trans (((mu_ne (k := 67) (j := 47) hma_30 (by decide))).trans (((mu_ne (k := 61) (j := 47) hma_28 (by decide))).trans (((mu_ne (k := 60) (j := 47) hma_26 (by decide))).trans (((mu_ne (k := 49) (j := 47) hma_24 (by decide))).trans (((mu_ne (k := 48) (j := 47) hma_22 (by decide))).trans (((mu_ne (k := 68) (j := 47) hma_20 (by decide))).trans ((mu_eq (k := 47) hma_18)))))))))
      have zs : ma_34 48 = (upd (ma_20 48) x_5.toNatClampNeg (1048576 : Int32)) := ((mu_ne (k := 56) (j := 48) hma_34 (by decide))).trans (((mu_ne (k := 69) (j := 48) hma_32 (by decide))).trans (((mu_ne (k := 67) (j := 48) hma_30 (by decide))).trans (((mu_ne (k := 61) (j := 48) hma_28 (by decide))).trans (((mu_ne (k := 60) (j := 48) hma_26 (by decide))).trans (((mu_ne (k := 49) (j := 48) hma_24 (by decide))).trans ((mu_eq (k := 48) hma_22)))))))
      have hI : MB mi_8 ma_34 := MB_more hI (by omega) (by omega) (by rw [z32]; omega) (by rw [zc, up_self]; decide) (by rw [zs, up_self]; decide)
      exact W.iret (v := x_5) hx hb hr (fun t ht hW => ⟨⟨x_5, (), rfl, ⟨(by rw [show x_5 = mi 32 from ex_5]; simp [rfw, ← ex_1, ← hr_3, c_2, c_4]), by rw [← hRES, hE]⟩, ⟨mi_8, ma_34, ⟨⟨hI, fun k hk => (hFI k hk).trans (by rw [hmi0]), fun k hk => (hFA k hk).trans (by rw [hma0]), ⟨(by rw [show mi_8 4 = mi 4 from (show mi_8 4 = mi 4 from (congrFun hmi_8 4).symm), show mi_8 10 = mi 10 from (show mi_8 10 = mi 10 from (congrFun hmi_8 10).symm), show mi_8 11 = mi 11 from (show mi_8 11 = mi 11 from (congrFun hmi_8 11).symm), show mi_8 12 = mi 12 from (show mi_8 12 = mi 12 from (congrFun hmi_8 12).symm), show mi_8 17 = mi 17 from (show mi_8 17 = mi 17 from (congrFun hmi_8 17).symm), show mi_8 18 = mi 18 from (show mi_8 18 = mi 18 from (congrFun hmi_8 18).symm), show mi_8 19 = mi 19 from (show mi_8 19 = mi 19 from (congrFun hmi_8 19).symm), show ma_34 13 = ma 13 from ((mu_ne (k := 56) (j := 13) hma_34 (by decide))).trans (((mu_ne (k := 69) (j := 13) hma_32 (by decide))).trans (((mu_ne (k := 67) (j := 13) hma_30 (by decide))).trans (((mu_ne (k := 61) (j := 13) hma_28 (by decide))).trans (((mu_ne (k := 60) (j := 13) hma_26 (by decide))).trans (((mu_ne (k := 49) (j := 13) hma_24 (by decide))).trans (((mu_ne (k := 48) (j := 13) hma_22 (by decide))).trans (((mu_ne (k := 68) (j := 13) hma_20 (by decide))).trans (((mu_ne (k := 47) (j := 13) hma_18 (by decide))).trans (((mu_ne (k := 42) (j := 13) hma_16 (by decide))).trans (((mu_ne (k := 40) (j := 13) hma_14 (by decide))).trans (((mu_ne (k := 35) (j := 13) hma_12 (by decide))).trans ((mu_ne (k := 33) (j := 13) hma_10 (by decide)))))))))))))), show ma_34 20 = ma 20 from ((mu_ne (k := 56) (j := 20) hma_34 (by decide))).trans (((mu_ne (k := 69) (j := 20) hma_32 (by decide))).trans (((mu_ne (k := 67) (j := 20) hma_30 (by decide))).trans (((mu_ne (k := 61) (j := 20) hma_28 (by decide))).trans (((mu_ne (k := 60) (j := 20) hma_26 (by decide))).trans (((mu_ne (k := 49) (j := 20) hma_24 (by decide))).trans (((mu_ne (k := 48) (j := 20) hma_22 (by decide))).trans (((mu_ne (k := 68) (j := 20) hma_20 (by decide))).trans (((mu_ne (k := 47) (j := 20) hma_18 (by decide))).trans (((mu_ne (k := 42) (j := 20) hma_16 (by decide))).trans (((mu_ne (k := 40) (j := 20) hma_14 (by decide))).trans (((mu_ne (k := 35) (j := 20) hma_12 (by decide))).trans ((mu_ne (k := 33) (j := 20) hma_10 (by decide)))))))))))))), show ma_34 41 = ma 41 from ((mu_ne (k := 56) (j := 41) hma_34 (by decide))).trans (((mu_ne (k := 69) (j := 41) hma_32 (by decide))).trans (((mu_ne (k := 67) (j := 41) hma_30 (by decide))).trans (((mu_ne (k := 61) (j := 41) hma_28 (by decide))).trans (((mu_ne (k := 60) (j := 41) hma_26 (by decide))).trans (((mu_ne (k := 49) (j := 41) hma_24 (by decide))).trans (((mu_ne (k := 48) (j := 41) hma_22 (by decide))).trans (((mu_ne (k := 68) (j := 41) hma_20 (by decide))).trans (((mu_ne (k := 47) (j := 41) hma_18 (by decide))).trans (((mu_ne (k := 42) (j := 41) hma_16 (by decide))).trans (((mu_ne (k := 40) (j := 41) hma_14 (by decide))).trans (((mu_ne (k := 35) (j := 41) hma_12 (by decide))).trans ((mu_ne (k := 33) (j := 41) hma_10 (by decide)))))))))))))), show ma_34 40 = (upd (ma_12 40) x_5.toNatClampNeg ((-1) : Int32)) from ((mu_ne (k := 56) (j := 40) hma_34 (by decide))).trans (((mu_ne (k := 69) (j := 40) hma_32 (by decide))).trans (((mu_ne (k := 67) (j := 40) hma_30 (by decide))).trans (((mu_ne (k := 61) (j := 40) hma_28 (by decide))).trans (((mu_ne (k := 60) (j := 40) hma_26 (by decide))).trans (((mu_ne (k := 49) (j := 40) hma_24 (by decide))).trans (((mu_ne (k := 48) (j := 40) hma_22 (by decide))).trans (((mu_ne (k := 68) (j := 40) hma_20 (by decide))).trans (((mu_ne (k := 47) (j := 40) hma_18 (by decide))).trans (((mu_ne (k := 42) (j := 40) hma_16 (by decide))).trans ((mu_eq (k := 40) hma_14))))))))))), show ma_12 40 = ma 40 from ((mu_ne (k := 35) (j := 40) hma_12 (by decide))).trans ((mu_ne (k := 33) (j := 40) hma_10 (by decide)))]; exact ⟨hU.1, da_sw hU.2 (by have o9 := owc_none (g := ma 40) (i := x_5.toNatClampNeg); omega)⟩), (by rw [z32, ex_7, show x_6 = x_1 from ex_6.trans ex_1.symm]; simp [rfn, ← ex_1, ← hr_3, c_2, c_4]), (by rw [show ma_34 35 = (upd (ma_10 35) x_5.toNatClampNeg (40 : Int32)) from ((mu_ne (k := 56) (j := 35) hma_34 (by decide))).trans (((mu_ne (k := 69) (j := 35) hma_32 (by decide))).trans (((mu_ne (k := 67) (j := 35) hma_30 (by decide))).trans (((mu_ne (k := 61) (j := 35) hma_28 (by decide))).trans (((mu_ne (k := 60) (j := 35) hma_26 (by decide))).trans (((mu_ne (k := 49) (j := 35) hma_24 (by decide))).trans (((mu_ne (k := 48) (j := 35) hma_22 (by decide))).trans (((mu_ne (k := 68) (j := 35) hma_20 (by decide))).trans (((mu_ne (k := 47) (j := 35) hma_18 (by decide))).trans (((mu_ne (k := 42) (j := 35) hma_16 (by decide))).trans (((mu_ne (k := 40) (j := 35) hma_14 (by decide))).trans ((mu_eq (k := 35) hma_12)))))))))))), show ma_10 35 = ma 35 from mu_ne (k := 33) (j := 35) hma_10 (by decide), show x_5 = x_1 from ex_5.trans ex_1.symm]; simp [rfm, ← ex_1, ← hr_3, c_2, c_4])⟩⟩, by rw [← hRES, hE], by rw [← hRES, hE]⟩, by rw [ht]; exact hP, va_K.moved hW.alike hK, hD⟩⟩, hS.F ht⟩) hS.2.2 dX11_flow_135
    · have t_c_4 := congrArg Int32.toInt c_4
      have hE := hE.trans (if_pos c_4)
      refine lv_iconst (v := (-1)) hx hb dX11_flow_17 (by decide) ?_
      exact W.iret (v := (-1)) hx hb hr (fun t ht hW => ⟨⟨(-1), (), rfl, ⟨by simp [rfw, ← ex_1, ← hr_3, c_2, c_4], by rw [← hRES, hE]⟩, ⟨mi, ma, ⟨⟨hI, fun k hk => (hFI k hk).trans (by rw [hmi0]), fun k hk => (hFA k hk).trans (by rw [hma0]), ⟨hU, by simp [rfn, ← ex_1, ← hr_3, c_2, c_4], by simp [rfm, ← ex_1, ← hr_3, c_2, c_4]⟩⟩, by rw [← hRES, hE], by rw [← hRES, hE]⟩, by rw [ht]; exact hP, va_K.moved hW.alike hK, hD⟩⟩, hS.F ht⟩) hS.2.2 dX11_flow_18

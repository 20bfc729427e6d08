def xc_send (n : Nat) (FX : Nat → Nat → Int32) (FV : FVt) (FJ : FJt) (a1 a2 : Int32) : FVt × FJt := bd (isf a1 n) (fun r1 => if r1 = 0 then (FV, FJ) else bd (wi a2 1 100000) (fun r2 => if r2 = 0 then (FV, FJ) else bd (va_up FV a1.toNatClampNeg (fpk (FV a1.toNatClampNeg 0) (FV a1.toNatClampNeg 1) (FV a1.toNatClampNeg 2) (FV a1.toNatClampNeg 3) (FV a1.toNatClampNeg 4))) (fun FV => bd (va_up FJ a1.toNatClampNeg (fpj (FJ a1.toNatClampNeg 0) (FJ a1.toNatClampNeg 1) (FJ a1.toNatClampNeg 2))) (fun FJ => (FV, FJ)))))
set_option maxHeartbeats 4000000 in
set_option maxRecDepth 100000 in
theorem s_send (l : Launch) (D : va_G) (cI cJ cZ cO : ClassId) (sz : Nat) (b0 fl : Nat) (nw : Int32) (n : Nat) (fa : Nat → Nat → Nat) (FX : Nat → Nat → Int32) (FV : Nat → Nat → Nat → Int32) (FJ : Nat → Nat → Nat → Int64) (hn : n ≤ 4) (r0 r1 r2 r3 r4 r5 : Nat) (ov : Nat → Int32) (ol : Option Nat) (cf cl : Nat → Option Nat) (zn : Nat → Int32) (xl : Nat → List Nat) (tag : Nat → Nat) (L : List Nat) (kd : Nat → Bool) (pi : Nat → Nat → Int32) (bd : Nat → Nat) (af : Nat → Option Nat) (bo : Nat → Nat → Int64) (go : Option S4) (gq : List S3) (gw : List S4) (ga : List A6) (tf : Nat → Int32) (a1 a2 : Int32) : Met l yX10_send (wa yX10_send cX10_send 3 (some .int)) ({ frames := 1, cells := 0, slots := 0, locals := 22 }) (va_Pc [.ref b0, .int a1, .int a2] (pw_s D cI cJ cZ cO sz (([(b0, cbC r0 fl nw), (fl, flC cO n fa), (r0, rdC ov (va_rf ol) r1 r2 r3 r4 r5), (r1, chC cf cl zn 0), (r2, chC cf cl zn 1), (r3, chC cf cl zn 2), (r4, chC cf cl zn 3), (r5, tlC cI tf)] ++ va_pl L (pf cJ kd pi bd af bo)) ++ fls cJ fa FX FV FJ n))) (va_Qi (fun (r : Int32) (ub : (Nat → Nat → Int32)) => SND n FX a1 a2 r ub) (fun (ub : (Nat → Nat → Int32)) (t : State) => ∃ (FV2 : Nat → Nat → Nat → Int32) (FJ2 : Nat → Nat → Nat → Int64), (FV2 = (xc_send n FX FV FJ a1 a2).1 ∧ FJ2 = (xc_send n FX FV FJ a1 a2).2) ∧ pw_t D cI cJ cZ cO (va_A (([(b0, cbC r0 fl nw), (fl, flC cO n fa), (r0, rdC ov (va_rf ol) r1 r2 r3 r4 r5), (r1, chC cf cl zn 0), (r2, chC cf cl zn 1), (r3, chC cf cl zn 2), (r4, chC cf cl zn 3), (r5, tlC cI tf)] ++ va_pl L (pf cJ kd pi bd af bo)) ++ fls cJ fa FX FV FJ n) sz) (([(b0, cbC r0 fl nw), (fl, flC cO n fa), (r0, rdC ov (va_rf ol) r1 r2 r3 r4 r5), (r1, chC cf cl zn 0), (r2, chC cf cl zn 1), (r3, chC cf cl zn 2), (r4, chC cf cl zn 3), (r5, tlC cI tf)] ++ va_pl L (pf cJ kd pi bd af bo)) ++ fls cJ fa ub FV2 FJ2 n) t) (va_A (([(b0, cbC r0 fl nw), (fl, flC cO n fa), (r0, rdC ov (va_rf ol) r1 r2 r3 r4 r5), (r1, chC cf cl zn 0), (r2, chC cf cl zn 1), (r3, chC cf cl zn 2), (r4, chC cf cl zn 3), (r5, tlC cI tf)] ++ va_pl L (pf cJ kd pi bd af bo)) ++ fls cJ fa FX FV FJ n) sz)) 0 0 (va_A (([(b0, cbC r0 fl nw), (fl, flC cO n fa), (r0, rdC ov (va_rf ol) r1 r2 r3 r4 r5), (r1, chC cf cl zn 0), (r2, chC cf cl zn 1), (r3, chC cf cl zn 2), (r4, chC cf cl zn 3), (r5, tlC cI tf)] ++ va_pl L (pf cJ kd pi bd af bo)) ++ fls cJ fa FX FV FJ n) sz) := by
  refine Met.ofW (cc := cX10_send) (maxL := 3) (ret := (some .int)) (by decide) rfl ?_
  intro p e s m args below meth c s₁ B hml hv
  obtain ⟨rfl, hsz, hP, hK, hD0, hN⟩ := hv
  have hx := B.exec
  have hb := B.bytes
  have hr := B.returns
  have hts := atoms_spec (ws := (wa yX10_send cX10_send 3 (some .int))) B.pre
  have ha : ∀ w ∈ wsL_law, w.before _ s = true := fun w h => hts w (List.mem_cons_of_mem _ h)
  have hown : s.vm.findClass RX10 = some m.cls := findClass_of_methodNamed B.named
  have hlocks := B.notSynchronized
  subst hsz
  have hD := hD0.self (sz := s.heap.size)
  generalize hAe : va_A (([(b0, cbC r0 fl nw), (fl, flC cO n fa), (r0, rdC ov (va_rf ol) r1 r2 r3 r4 r5), (r1, chC cf cl zn 0), (r2, chC cf cl zn 1), (r3, chC cf cl zn 2), (r4, chC cf cl zn 3), (r5, tlC cI tf)] ++ va_pl L (pf cJ kd pi bd af bo)) ++ fls cJ fa FX FV FJ n) s.heap.size = A at hD ⊢
  have hA : ∀ q : Nat, s.heap.size ≤ q → A q := fun q h => by rw [← hAe]; exact Or.inr h
  have hS : va_S A s.heap s.heap [] := va_S.rf
  have hP : va_P D vwCl (([(b0, cbC r0 fl nw), (fl, flC cO n fa), (r0, rdC ov (va_rf ol) r1 r2 r3 r4 r5), (r1, chC cf cl zn 0), (r2, chC cf cl zn 1), (r3, chC cf cl zn 2), (r4, chC cf cl zn 3), (r5, tlC cI tf)] ++ va_pl L (pf cJ kd pi bd af bo)) ++ fls cJ fa FX FV FJ n) s.heap := hP
  have hl := lv_entry ([.ref b0, .int a1, .int a2]) (n := 3) (Nat.le_of_ble_eq_true rfl)
  rw [lg_entry_eq]
  generalize (lg_sl ([.ref b0, .int a1, .int a2]) ++ List.replicate (3 - (lg_sl ([.ref b0, .int a1, .int a2])).length) Slot.unset).toArray = ls at hl ⊢
  have hl : lv_has ls 3 [(0, .ref b0), (1, .int a1), (2, .int a2)] := hl
  obtain ⟨QP, hQP⟩ : ∃ y : State → Prop, y = (MQ below (va_Qi (fun (r : Int32) (ub : (Nat → Nat → Int32)) => SND n FX a1 a2 r ub) (fun (ub : (Nat → Nat → Int32)) (t : State) => ∃ (FV2 : Nat → Nat → Nat → Int32) (FJ2 : Nat → Nat → Nat → Int64), (FV2 = (xc_send n FX FV FJ a1 a2).1 ∧ FJ2 = (xc_send n FX FV FJ a1 a2).2) ∧ pw_t D cI cJ cZ cO A (([(b0, cbC r0 fl nw), (fl, flC cO n fa), (r0, rdC ov (va_rf ol) r1 r2 r3 r4 r5), (r1, chC cf cl zn 0), (r2, chC cf cl zn 1), (r3, chC cf cl zn 2), (r4, chC cf cl zn 3), (r5, tlC cI tf)] ++ va_pl L (pf cJ kd pi bd af bo)) ++ fls cJ fa ub FV2 FJ2 n) t) A) #[(.ref b0 : Value), (.int a1 : Value), (.int a2 : Value)] s 0 0 A) := ⟨_, rfl⟩
  obtain ⟨RES, hRES⟩ : ∃ y, y = (xc_send n FX FV FJ a1 a2) := ⟨_, rfl⟩
  -- from the entry
  have hE := hRES
  unfold xc_send at hE
  refine lv_aload_n hx hb dX10_send_0 rfl (lv_at hl 0 rfl) ?_
  refine lv_iload_n hx hb dX10_send_1 rfl (lv_at hl 1 rfl) ?_
  have hp0 := perm_idx (X := [(b0, cbC r0 fl nw), (fl, flC cO n fa), (r0, rdC ov (va_rf ol) r1 r2 r3 r4 r5), (r1, chC cf cl zn 0), (r2, chC cf cl zn 1), (r3, chC cf cl zn 2), (r4, chC cf cl zn 3), (r5, tlC cI tf)]) (Y := [(b0, cbC r0 fl nw), (fl, flC cO n fa)] ++ [(r0, rdC ov (va_rf ol) r1 r2 r3 r4 r5), (r1, chC cf cl zn 0), (r2, chC cf cl zn 1), (r3, chC cf cl zn 2), (r4, chC cf cl zn 3), (r5, tlC cI tf)]) (N := 8) [0, 1, 2, 3, 4, 5, 6, 7] rfl rfl (by decide)
  have hPq := hP.perm (pm_Q (cx := [(b0, cbC r0 fl nw), (fl, flC cO n fa)]) (xr := [(r0, rdC ov (va_rf ol) r1 r2 r3 r4 r5), (r1, chC cf cl zn 0), (r2, chC cf cl zn 1), (r3, chC cf cl zn 2), (r4, chC cf cl zn 3), (r5, tlC cI tf)]) (pl := va_pl L (pf cJ kd pi bd af bo)) (R := fls cJ fa FX FV FJ n) hp0)
  have hDq := hD.perm (pm_Q (cx := [(b0, cbC r0 fl nw), (fl, flC cO n fa)]) (xr := [(r0, rdC ov (va_rf ol) r1 r2 r3 r4 r5), (r1, chC cf cl zn 0), (r2, chC cf cl zn 1), (r3, chC cf cl zn 2), (r4, chC cf cl zn 3), (r5, tlC cI tf)]) (pl := va_pl L (pf cJ kd pi bd af bo)) (R := fls cJ fa FX FV FJ n) hp0)
  have hPc := hPq.left
  have hDc := hDq.left
  have hFc := va_freeR hDq hS hA
  refine va_calli (va_runV (As := [.int a1]) (rest := []) ⟨hx, hb, hml, hown, ha⟩ (c_isFlow l D cI cJ cZ cO _ b0 r0 fl nw n (fun i => some (fa i 0)) a1) (cwV 1 ha (gaV kl_X10_33 km_X10_isFlow ks_X10_isFlow kz_X10 kd_X10_isFlow) rfl rfl rfl (by decide +kernel) ⟨Nat.le_of_ble_eq_true rfl, Nat.le_of_ble_eq_true rfl⟩) ⟨pw_blind, va_recv hK hPc (ci := 10) (q0 := 0) rfl rfl, fun U hU hW => ⟨rfl, pw_start hU hW hPc hK hDc hN⟩⟩ rfl rfl hl.1 rfl (lv_room (Nat.le_of_ble_eq_true rfl)) dX10_send_2 ⟨Nat.le_of_ble_eq_true rfl, Nat.le_of_ble_eq_true rfl⟩) hS (fun q _ h => hFc q h) hFc (fun r_10 u t H1 locs ht hvm hw hB hz1 hk1 hS => ?_)
  obtain ⟨hP1, hK1, hD1⟩ := hB
  rw [ht] at hP1
  obtain ⟨hP, hD⟩ := va_joinR (w1 := [(b0, cbC r0 fl nw), (fl, flC cO n fa)]) hPq hDq hk1 hFc hP1 hD1
  have hP := hP.perm (pm_Qb (xr := [(r0, rdC ov (va_rf ol) r1 r2 r3 r4 r5), (r1, chC cf cl zn 0), (r2, chC cf cl zn 1), (r3, chC cf cl zn 2), (r4, chC cf cl zn 3), (r5, tlC cI tf)]) (w1 := [(b0, cbC r0 fl nw), (fl, flC cO n fa)]) (pl := va_pl L (pf cJ kd pi bd af bo)) (R := fls cJ fa FX FV FJ n))
  have hD := hD.perm (pm_Qb (xr := [(r0, rdC ov (va_rf ol) r1 r2 r3 r4 r5), (r1, chC cf cl zn 0), (r2, chC cf cl zn 1), (r3, chC cf cl zn 2), (r4, chC cf cl zn 3), (r5, tlC cI tf)]) (w1 := [(b0, cbC r0 fl nw), (fl, flC cO n fa)]) (pl := va_pl L (pf cJ kd pi bd af bo)) (R := fls cJ fa FX FV FJ n))
  clear hp0 hPq hDq hPc hDc hP1 hD1
  generalize H1 = H at hP hS ⊢
  have hP : va_P D vwCl (([(r0, rdC ov (va_rf ol) r1 r2 r3 r4 r5), (r1, chC cf cl zn 0), (r2, chC cf cl zn 1), (r3, chC cf cl zn 2), (r4, chC cf cl zn 3), (r5, tlC cI tf), (b0, cbC r0 fl nw), (fl, flC cO n fa)] ++ va_pl L (pf cJ kd pi bd af bo)) ++ fls cJ fa FX FV FJ n) H := hP
  have hD : va_D A (([(r0, rdC ov (va_rf ol) r1 r2 r3 r4 r5), (r1, chC cf cl zn 0), (r2, chC cf cl zn 1), (r3, chC cf cl zn 2), (r4, chC cf cl zn 3), (r5, tlC cI tf), (b0, cbC r0 fl nw), (fl, flC cO n fa)] ++ va_pl L (pf cJ kd pi bd af bo)) ++ fls cJ fa FX FV FJ n) := hD
  have hpo := pm_X (pl := va_pl L (pf cJ kd pi bd af bo)) (R := fls cJ fa FX FV FJ n) (perm_idx (X := [(r0, rdC ov (va_rf ol) r1 r2 r3 r4 r5), (r1, chC cf cl zn 0), (r2, chC cf cl zn 1), (r3, chC cf cl zn 2), (r4, chC cf cl zn 3), (r5, tlC cI tf), (b0, cbC r0 fl nw), (fl, flC cO n fa)]) (Y := [(b0, cbC r0 fl nw), (fl, flC cO n fa), (r0, rdC ov (va_rf ol) r1 r2 r3 r4 r5), (r1, chC cf cl zn 0), (r2, chC cf cl zn 1), (r3, chC cf cl zn 2), (r4, chC cf cl zn 3), (r5, tlC cI tf)]) (N := 8) [6, 7, 0, 1, 2, 3, 4, 5] rfl rfl (by decide))
  have hP := hP.perm hpo
  have hD := hD.perm hpo
  clear hpo
  have hP : va_P D vwCl (([(b0, cbC r0 fl nw), (fl, flC cO n fa), (r0, rdC ov (va_rf ol) r1 r2 r3 r4 r5), (r1, chC cf cl zn 0), (r2, chC cf cl zn 1), (r3, chC cf cl zn 2), (r4, chC cf cl zn 3), (r5, tlC cI tf)] ++ va_pl L (pf cJ kd pi bd af bo)) ++ fls cJ fa FX FV FJ n) H := hP
  have hD : va_D A (([(b0, cbC r0 fl nw), (fl, flC cO n fa), (r0, rdC ov (va_rf ol) r1 r2 r3 r4 r5), (r1, chC cf cl zn 0), (r2, chC cf cl zn 1), (r3, chC cf cl zn 2), (r4, chC cf cl zn 3), (r5, tlC cI tf)] ++ va_pl L (pf cJ kd pi bd af bo)) ++ fls cJ fa FX FV FJ n) := hD
  refine W.widen (k := 0) (n := 0) (Nat.le_of_ble_eq_true rfl) (Nat.le_of_ble_eq_true rfl) ?_
  have hr_10 := hw
  have hE := bd_at hr_10 hE
  refine lv_if_eq (tgt := 18) hx hb dX10_send_5 (by decide) (fun c_11 => ?_) (fun c_11 => ?_)
  · have hE := hE.trans (if_pos c_11)
    refine lv_iconst (v := (-1)) hx hb dX10_send_18 (by decide) ?_
    have hP9 : va_P D vwCl (([(b0, cbC r0 fl nw), (fl, flC cO n fa), (r0, rdC ov (va_rf ol) r1 r2 r3 r4 r5), (r1, chC cf cl zn 0), (r2, chC cf cl zn 1), (r3, chC cf cl zn 2), (r4, chC cf cl zn 3), (r5, tlC cI tf)] ++ va_pl L (pf cJ kd pi bd af bo)) ++ fls cJ fa FX FV FJ n) _ := hP
    have hD9 : va_D A (([(b0, cbC r0 fl nw), (fl, flC cO n fa), (r0, rdC ov (va_rf ol) r1 r2 r3 r4 r5), (r1, chC cf cl zn 0), (r2, chC cf cl zn 1), (r3, chC cf cl zn 2), (r4, chC cf cl zn 3), (r5, tlC cI tf)] ++ va_pl L (pf cJ kd pi bd af bo)) ++ fls cJ fa FX FV FJ n) := hD
    exact W.iret (v := (-1)) hx hb hr (fun t ht hW => ⟨⟨(-1), FX, rfl, Or.inl ⟨rfl, rfl, Or.inl (hr_10.symm.trans c_11)⟩, ⟨FV, FJ, ⟨(by rw [← hRES, hE]), (by rw [← hRES, hE])⟩, by rw [ht]; exact hP9, va_K.moved hW.alike hK, hD9⟩⟩, hS.F ht⟩) hS.2.2 dX10_send_19
  · have hE := hE.trans (if_neg c_11)
    refine lv_iload_n hx hb dX10_send_8 rfl (lv_at hl 2 rfl) ?_
    refine lv_iconst (v := 1) hx hb dX10_send_9 (by decide) ?_
    refine lv_ldc (v := 100000) hx hb hown (ha _ kk_X10_37) dX10_send_10 ?_
    have hp0 := perm_idx (X := [(b0, cbC r0 fl nw), (fl, flC cO n fa), (r0, rdC ov (va_rf ol) r1 r2 r3 r4 r5), (r1, chC cf cl zn 0), (r2, chC cf cl zn 1), (r3, chC cf cl zn 2), (r4, chC cf cl zn 3), (r5, tlC cI tf)]) (Y := [] ++ [(b0, cbC r0 fl nw), (fl, flC cO n fa), (r0, rdC ov (va_rf ol) r1 r2 r3 r4 r5), (r1, chC cf cl zn 0), (r2, chC cf cl zn 1), (r3, chC cf cl zn 2), (r4, chC cf cl zn 3), (r5, tlC cI tf)]) (N := 8) [0, 1, 2, 3, 4, 5, 6, 7] rfl rfl (by decide)
    have hPq := hP.perm (pm_Q (cx := []) (xr := [(b0, cbC r0 fl nw), (fl, flC cO n fa), (r0, rdC ov (va_rf ol) r1 r2 r3 r4 r5), (r1, chC cf cl zn 0), (r2, chC cf cl zn 1), (r3, chC cf cl zn 2), (r4, chC cf cl zn 3), (r5, tlC cI tf)]) (pl := va_pl L (pf cJ kd pi bd af bo)) (R := fls cJ fa FX FV FJ n) hp0)
    have hDq := hD.perm (pm_Q (cx := []) (xr := [(b0, cbC r0 fl nw), (fl, flC cO n fa), (r0, rdC ov (va_rf ol) r1 r2 r3 r4 r5), (r1, chC cf cl zn 0), (r2, chC cf cl zn 1), (r3, chC cf cl zn 2), (r4, chC cf cl zn 3), (r5, tlC cI tf)]) (pl := va_pl L (pf cJ kd pi bd af bo)) (R := fls cJ fa FX FV FJ n) hp0)
    have hPc := hPq.left
    have hDc := hDq.left
    have hFc := va_freeR hDq hS hA
    refine va_calli (va_runS (As := [.int a2, .int 1, .int 100000]) (rest := []) ⟨hx, hb, hml, hown, ha⟩ (c_within l D cI cJ cZ cO _ a2 1 100000) (va_cwS 3 ha (gaS kl_X10_22 kt_X10_within kz_X10 kd_X10_within) rfl rfl rfl (by decide +kernel) ⟨Nat.le_of_ble_eq_true rfl, Nat.le_of_ble_eq_true rfl⟩) ⟨pw_blind, fun U hU hW => ⟨rfl, pw_start hU hW hPc hK hDc hN⟩⟩ rfl rfl hl.1 rfl (lv_room (Nat.le_of_ble_eq_true rfl)) dX10_send_12 ⟨Nat.le_of_ble_eq_true rfl, Nat.le_of_ble_eq_true rfl⟩) hS (fun q _ h => hFc q h) hFc (fun r_12 u t H1 locs ht hvm hw hB hz1 hk1 hS => ?_)
    obtain ⟨hP1, hK1, hD1⟩ := hB
    rw [ht] at hP1
    obtain ⟨hP, hD⟩ := va_joinR (w1 := []) hPq hDq hk1 hFc hP1 hD1
    have hP := hP.perm (pm_Qb (xr := [(b0, cbC r0 fl nw), (fl, flC cO n fa), (r0, rdC ov (va_rf ol) r1 r2 r3 r4 r5), (r1, chC cf cl zn 0), (r2, chC cf cl zn 1), (r3, chC cf cl zn 2), (r4, chC cf cl zn 3), (r5, tlC cI tf)]) (w1 := []) (pl := va_pl L (pf cJ kd pi bd af bo)) (R := fls cJ fa FX FV FJ n))
    have hD := hD.perm (pm_Qb (xr := [(b0, cbC r0 fl nw), (fl, flC cO n fa), (r0, rdC ov (va_rf ol) r1 r2 r3 r4 r5), (r1, chC cf cl zn 0), (r2, chC cf cl zn 1), (r3, chC cf cl zn 2), (r4, chC cf cl zn 3), (r5, tlC cI tf)]) (w1 := []) (pl := va_pl L (pf cJ kd pi bd af bo)) (R := fls cJ fa FX FV FJ n))
    clear hp0 hPq hDq hPc hDc hP1 hD1
    generalize H1 = H at hP hS ⊢
    have hP : va_P D vwCl (([(b0, cbC r0 fl nw), (fl, flC cO n fa), (r0, rdC ov (va_rf ol) r1 r2 r3 r4 r5), (r1, chC cf cl zn 0), (r2, chC cf cl zn 1), (r3, chC cf cl zn 2), (r4, chC cf cl zn 3), (r5, tlC cI tf)] ++ va_pl L (pf cJ kd pi bd af bo)) ++ fls cJ fa FX FV FJ n) H := hP
    have hD : va_D A (([(b0, cbC r0 fl nw), (fl, flC cO n fa), (r0, rdC ov (va_rf ol) r1 r2 r3 r4 r5), (r1, chC cf cl zn 0), (r2, chC cf cl zn 1), (r3, chC cf cl zn 2), (r4, chC cf cl zn 3), (r5, tlC cI tf)] ++ va_pl L (pf cJ kd pi bd af bo)) ++ fls cJ fa FX FV FJ n) := hD
    refine W.widen (k := 0) (n := 0) (Nat.le_of_ble_eq_true rfl) (Nat.le_of_ble_eq_true rfl) ?_
    have hr_12 := hw
    have hE := bd_at hr_12 hE
    refine lv_if_ne (tgt := 20) hx hb dX10_send_15 (by decide) (fun c_13 => ?_) (fun c_13 => ?_)
    · have hE := hE.trans (if_neg c_13)
      obtain ⟨j, hj, hxj⟩ := isf_j hn (by rw [← hr_10]; exact c_11)
      subst hxj
      rw [nI_clamp (show j < 2 ^ 31 by omega)] at hE
      refine lv_aload_n hx hb dX10_send_20 rfl (lv_at hl 0 rfl) ?_
      refine va_get (D := D) (ci := 10) (v := .ref fl) (C := RX10) (T := TX10) (N := 3) hx hb ha inlX10 hown hK hP 0 rfl rfl 1 (by decide) (ha _ kf_X10_18) (fun _ h9 => h9) rfl dX10_send_21 ?_
      refine lv_iload_n hx hb dX10_send_24 rfl (lv_at hl 1 rfl) ?_
      refine va_aldq hx hb hK hP 1 3 rfl rfl (vp_in_nI hj (by omega)) dX10_send_25 ?_
      rw [nI_clamp (show j < 2 ^ 31 by omega)]
      refine W.eq (g2 := F0 m 26 ls [.ref (fa j 0)]) rfl ?_
      obtain ⟨FA_14, FB_15, hfe_16, hfu_17⟩ := fls_at (cJ := cJ) (fa := fa) (FX := FX) (FV := FV) (FJ := FJ) hj
      have hpo := pm_open (X := [(b0, cbC r0 fl nw), (fl, flC cO n fa), (r0, rdC ov (va_rf ol) r1 r2 r3 r4 r5), (r1, chC cf cl zn 0), (r2, chC cf cl zn 1), (r3, chC cf cl zn 2), (r4, chC cf cl zn 3), (r5, tlC cI tf)]) (c := fcs cJ fa FX FV FJ j) (pl := va_pl L (pf cJ kd pi bd af bo)) hfe_16
      have hP := hP.perm hpo
      have hD := hD.perm hpo
      clear hpo
      have hP : va_P D vwCl (([(b0, cbC r0 fl nw), (fl, flC cO n fa), (r0, rdC ov (va_rf ol) r1 r2 r3 r4 r5), (r1, chC cf cl zn 0), (r2, chC cf cl zn 1), (r3, chC cf cl zn 2), (r4, chC cf cl zn 3), (r5, tlC cI tf), ((fa j 0), fwC (fa j 1) (fa j 9)), ((fa j 1), snC (FX j 0) (FX j 1) (FX j 2) (FV j 0) (fa j 2) (fa j 3) (fa j 8)), ((fa j 2), tmC (FV j 1)), ((fa j 3), boC (fa j 4) (fa j 6) (FV j 2)), ((fa j 4), mkC (fa j 5)), ((fa j 5), .inl (cJ, 4, .inr (.inl (FJ j 0)))), ((fa j 6), mkC (fa j 7)), ((fa j 7), .inl (cJ, 4, .inr (.inl (FJ j 1)))), ((fa j 8), cuC (FV j 3)), ((fa j 9), rcC (FX j 0) (FV j 4) (FX j 3) (fa j 10)), ((fa j 10), mkC (fa j 11)), ((fa j 11), .inl (cJ, 4, .inr (.inl (FJ j 2))))] ++ va_pl L (pf cJ kd pi bd af bo)) ++ (FA_14 ++ FB_15)) H := hP
      have hD : va_D A (([(b0, cbC r0 fl nw), (fl, flC cO n fa), (r0, rdC ov (va_rf ol) r1 r2 r3 r4 r5), (r1, chC cf cl zn 0), (r2, chC cf cl zn 1), (r3, chC cf cl zn 2), (r4, chC cf cl zn 3), (r5, tlC cI tf), ((fa j 0), fwC (fa j 1) (fa j 9)), ((fa j 1), snC (FX j 0) (FX j 1) (FX j 2) (FV j 0) (fa j 2) (fa j 3) (fa j 8)), ((fa j 2), tmC (FV j 1)), ((fa j 3), boC (fa j 4) (fa j 6) (FV j 2)), ((fa j 4), mkC (fa j 5)), ((fa j 5), .inl (cJ, 4, .inr (.inl (FJ j 0)))), ((fa j 6), mkC (fa j 7)), ((fa j 7), .inl (cJ, 4, .inr (.inl (FJ j 1)))), ((fa j 8), cuC (FV j 3)), ((fa j 9), rcC (FX j 0) (FV j 4) (FX j 3) (fa j 10)), ((fa j 10), mkC (fa j 11)), ((fa j 11), .inl (cJ, 4, .inr (.inl (FJ j 2))))] ++ va_pl L (pf cJ kd pi bd af bo)) ++ (FA_14 ++ FB_15)) := hD
      generalize hv0 : FV j 0 = sv at hP hD hE
      generalize hv1 : FV j 1 = tv at hP hD hE
      generalize hv2 : FV j 2 = bv at hP hD hE
      generalize hv3 : FV j 3 = cv at hP hD hE
      generalize hv4 : FV j 4 = rv at hP hD hE
      generalize hj0 : FJ j 0 = f at hP hD hE
      generalize hj1 : FJ j 1 = g at hP hD hE
      generalize hj2 : FJ j 2 = kf at hP hD hE
      refine va_getN (D := D) (ci := 3) (v := .ref (fa j 1)) (C := RX3) (T := TX3) (N := 2) hx hb ha inlX3 hown hK hP 8 rfl rfl 0 (by decide) (va_Nw.use rfl (hN.f RX10 38 "CongestionBench$Flow" "sender" "LCongestionBench$Sender;" "CongestionBench" (by decide +kernel))) (fun _ h9 => h9) rfl dX10_send_26 ?_
      refine lv_iload_n hx hb dX10_send_29 rfl (lv_at hl 2 rfl) ?_
      have hp0 := perm_idx (X := [(b0, cbC r0 fl nw), (fl, flC cO n fa), (r0, rdC ov (va_rf ol) r1 r2 r3 r4 r5), (r1, chC cf cl zn 0), (r2, chC cf cl zn 1), (r3, chC cf cl zn 2), (r4, chC cf cl zn 3), (r5, tlC cI tf), ((fa j 0), fwC (fa j 1) (fa j 9)), ((fa j 1), snC (FX j 0) (FX j 1) (FX j 2) sv (fa j 2) (fa j 3) (fa j 8)), ((fa j 2), tmC tv), ((fa j 3), boC (fa j 4) (fa j 6) bv), ((fa j 4), mkC (fa j 5)), ((fa j 5), .inl (cJ, 4, .inr (.inl f))), ((fa j 6), mkC (fa j 7)), ((fa j 7), .inl (cJ, 4, .inr (.inl g))), ((fa j 8), cuC cv), ((fa j 9), rcC (FX j 0) rv (FX j 3) (fa j 10)), ((fa j 10), mkC (fa j 11)), ((fa j 11), .inl (cJ, 4, .inr (.inl kf)))]) (Y := [((fa j 1), snC (FX j 0) (FX j 1) (FX j 2) sv (fa j 2) (fa j 3) (fa j 8))] ++ [(b0, cbC r0 fl nw), (fl, flC cO n fa), (r0, rdC ov (va_rf ol) r1 r2 r3 r4 r5), (r1, chC cf cl zn 0), (r2, chC cf cl zn 1), (r3, chC cf cl zn 2), (r4, chC cf cl zn 3), (r5, tlC cI tf), ((fa j 0), fwC (fa j 1) (fa j 9)), ((fa j 2), tmC tv), ((fa j 3), boC (fa j 4) (fa j 6) bv), ((fa j 4), mkC (fa j 5)), ((fa j 5), .inl (cJ, 4, .inr (.inl f))), ((fa j 6), mkC (fa j 7)), ((fa j 7), .inl (cJ, 4, .inr (.inl g))), ((fa j 8), cuC cv), ((fa j 9), rcC (FX j 0) rv (FX j 3) (fa j 10)), ((fa j 10), mkC (fa j 11)), ((fa j 11), .inl (cJ, 4, .inr (.inl kf)))]) (N := 20) [9, 0, 1, 2, 3, 4, 5, 6, 7, 8, 10, 11, 12, 13, 14, 15, 16, 17, 18, 19] rfl rfl (by decide)
      have hPq := hP.perm (pm_Q (cx := [((fa j 1), snC (FX j 0) (FX j 1) (FX j 2) sv (fa j 2) (fa j 3) (fa j 8))]) (xr := [(b0, cbC r0 fl nw), (fl, flC cO n fa), (r0, rdC ov (va_rf ol) r1 r2 r3 r4 r5), (r1, chC cf cl zn 0), (r2, chC cf cl zn 1), (r3, chC cf cl zn 2), (r4, chC cf cl zn 3), (r5, tlC cI tf), ((fa j 0), fwC (fa j 1) (fa j 9)), ((fa j 2), tmC tv), ((fa j 3), boC (fa j 4) (fa j 6) bv), ((fa j 4), mkC (fa j 5)), ((fa j 5), .inl (cJ, 4, .inr (.inl f))), ((fa j 6), mkC (fa j 7)), ((fa j 7), .inl (cJ, 4, .inr (.inl g))), ((fa j 8), cuC cv), ((fa j 9), rcC (FX j 0) rv (FX j 3) (fa j 10)), ((fa j 10), mkC (fa j 11)), ((fa j 11), .inl (cJ, 4, .inr (.inl kf)))]) (pl := va_pl L (pf cJ kd pi bd af bo)) (R := (FA_14 ++ FB_15)) hp0)
      have hDq := hD.perm (pm_Q (cx := [((fa j 1), snC (FX j 0) (FX j 1) (FX j 2) sv (fa j 2) (fa j 3) (fa j 8))]) (xr := [(b0, cbC r0 fl nw), (fl, flC cO n fa), (r0, rdC ov (va_rf ol) r1 r2 r3 r4 r5), (r1, chC cf cl zn 0), (r2, chC cf cl zn 1), (r3, chC cf cl zn 2), (r4, chC cf cl zn 3), (r5, tlC cI tf), ((fa j 0), fwC (fa j 1) (fa j 9)), ((fa j 2), tmC tv), ((fa j 3), boC (fa j 4) (fa j 6) bv), ((fa j 4), mkC (fa j 5)), ((fa j 5), .inl (cJ, 4, .inr (.inl f))), ((fa j 6), mkC (fa j 7)), ((fa j 7), .inl (cJ, 4, .inr (.inl g))), ((fa j 8), cuC cv), ((fa j 9), rcC (FX j 0) rv (FX j 3) (fa j 10)), ((fa j 10), mkC (fa j 11)), ((fa j 11), .inl (cJ, 4, .inr (.inl kf)))]) (pl := va_pl L (pf cJ kd pi bd af bo)) (R := (FA_14 ++ FB_15)) hp0)
      have hPc := hPq.left
      have hDc := hDq.left
      have hFc := va_freeR hDq hS hA
      refine va_calli (va_runV (As := [.int a2]) (rest := []) ⟨hx, hb, hml, hown, ha⟩ (s_addGoal l D cI cJ cZ cO _ (fa j 1) (fa j 2) (fa j 3) (fa j 8) (FX j 0) (FX j 1) (FX j 2) sv a2) (cwV 1 ha (gaV kl_X10_42 km_X8_addGoal ks_X8_addGoal kz_X8 kd_X8_addGoal) rfl rfl rfl (by decide +kernel) ⟨Nat.le_of_ble_eq_true rfl, Nat.le_of_ble_eq_true rfl⟩) ⟨pw_blind, va_recv hK hPc (ci := 8) (q0 := 0) rfl rfl, fun U hU hW => ⟨rfl, pw_start hU hW hPc hK hDc hN⟩⟩ rfl rfl hl.1 rfl (lv_room (Nat.le_of_ble_eq_true rfl)) dX10_send_30 ⟨Nat.le_of_ble_eq_true rfl, Nat.le_of_ble_eq_true rfl⟩) hS (fun q _ h => hFc q h) hFc (fun r_18 u t H1 locs ht hvm hw hB hz1 hk1 hS => ?_)
      obtain ⟨hP1, hK1, hD1⟩ := hB
      rw [ht] at hP1
      obtain ⟨hP, hD⟩ := va_joinR (w1 := [((fa j 1), snC (FX j 0) (FX j 1) (ag2 (FX j 2) a2) sv (fa j 2) (fa j 3) (fa j 8))]) hPq hDq hk1 hFc hP1 hD1
      have hP := hP.perm (pm_Qb (xr := [(b0, cbC r0 fl nw), (fl, flC cO n fa), (r0, rdC ov (va_rf ol) r1 r2 r3 r4 r5), (r1, chC cf cl zn 0), (r2, chC cf cl zn 1), (r3, chC cf cl zn 2), (r4, chC cf cl zn 3), (r5, tlC cI tf), ((fa j 0), fwC (fa j 1) (fa j 9)), ((fa j 2), tmC tv), ((fa j 3), boC (fa j 4) (fa j 6) bv), ((fa j 4), mkC (fa j 5)), ((fa j 5), .inl (cJ, 4, .inr (.inl f))), ((fa j 6), mkC (fa j 7)), ((fa j 7), .inl (cJ, 4, .inr (.inl g))), ((fa j 8), cuC cv), ((fa j 9), rcC (FX j 0) rv (FX j 3) (fa j 10)), ((fa j 10), mkC (fa j 11)), ((fa j 11), .inl (cJ, 4, .inr (.inl kf)))]) (w1 := [((fa j 1), snC (FX j 0) (FX j 1) (ag2 (FX j 2) a2) sv (fa j 2) (fa j 3) (fa j 8))]) (pl := va_pl L (pf cJ kd pi bd af bo)) (R := (FA_14 ++ FB_15)))
      have hD := hD.perm (pm_Qb (xr := [(b0, cbC r0 fl nw), (fl, flC cO n fa), (r0, rdC ov (va_rf ol) r1 r2 r3 r4 r5), (r1, chC cf cl zn 0), (r2, chC cf cl zn 1), (r3, chC cf cl zn 2), (r4, chC cf cl zn 3), (r5, tlC cI tf), ((fa j 0), fwC (fa j 1) (fa j 9)), ((fa j 2), tmC tv), ((fa j 3), boC (fa j 4) (fa j 6) bv), ((fa j 4), mkC (fa j 5)), ((fa j 5), .inl (cJ, 4, .inr (.inl f))), ((fa j 6), mkC (fa j 7)), ((fa j 7), .inl (cJ, 4, .inr (.inl g))), ((fa j 8), cuC cv), ((fa j 9), rcC (FX j 0) rv (FX j 3) (fa j 10)), ((fa j 10), mkC (fa j 11)), ((fa j 11), .inl (cJ, 4, .inr (.inl kf)))]) (w1 := [((fa j 1), snC (FX j 0) (FX j 1) (ag2 (FX j 2) a2) sv (fa j 2) (fa j 3) (fa j 8))]) (pl := va_pl L (pf cJ kd pi bd af bo)) (R := (FA_14 ++ FB_15)))
      clear hp0 hPq hDq hPc hDc hP1 hD1
      generalize H1 = H at hP hS ⊢
      have hP : va_P D vwCl (([(b0, cbC r0 fl nw), (fl, flC cO n fa), (r0, rdC ov (va_rf ol) r1 r2 r3 r4 r5), (r1, chC cf cl zn 0), (r2, chC cf cl zn 1), (r3, chC cf cl zn 2), (r4, chC cf cl zn 3), (r5, tlC cI tf), ((fa j 0), fwC (fa j 1) (fa j 9)), ((fa j 2), tmC tv), ((fa j 3), boC (fa j 4) (fa j 6) bv), ((fa j 4), mkC (fa j 5)), ((fa j 5), .inl (cJ, 4, .inr (.inl f))), ((fa j 6), mkC (fa j 7)), ((fa j 7), .inl (cJ, 4, .inr (.inl g))), ((fa j 8), cuC cv), ((fa j 9), rcC (FX j 0) rv (FX j 3) (fa j 10)), ((fa j 10), mkC (fa j 11)), ((fa j 11), .inl (cJ, 4, .inr (.inl kf))), ((fa j 1), snC (FX j 0) (FX j 1) (ag2 (FX j 2) a2) sv (fa j 2) (fa j 3) (fa j 8))] ++ va_pl L (pf cJ kd pi bd af bo)) ++ (FA_14 ++ FB_15)) H := hP
      have hD : va_D A (([(b0, cbC r0 fl nw), (fl, flC cO n fa), (r0, rdC ov (va_rf ol) r1 r2 r3 r4 r5), (r1, chC cf cl zn 0), (r2, chC cf cl zn 1), (r3, chC cf cl zn 2), (r4, chC cf cl zn 3), (r5, tlC cI tf), ((fa j 0), fwC (fa j 1) (fa j 9)), ((fa j 2), tmC tv), ((fa j 3), boC (fa j 4) (fa j 6) bv), ((fa j 4), mkC (fa j 5)), ((fa j 5), .inl (cJ, 4, .inr (.inl f))), ((fa j 6), mkC (fa j 7)), ((fa j 7), .inl (cJ, 4, .inr (.inl g))), ((fa j 8), cuC cv), ((fa j 9), rcC (FX j 0) rv (FX j 3) (fa j 10)), ((fa j 10), mkC (fa j 11)), ((fa j 11), .inl (cJ, 4, .inr (.inl kf))), ((fa j 1), snC (FX j 0) (FX j 1) (ag2 (FX j 2) a2) sv (fa j 2) (fa j 3) (fa j 8))] ++ va_pl L (pf cJ kd pi bd af bo)) ++ (FA_14 ++ FB_15)) := hD
      have hpo := pm_X (pl := va_pl L (pf cJ kd pi bd af bo)) (R := (FA_14 ++ FB_15)) (perm_idx (X := [(b0, cbC r0 fl nw), (fl, flC cO n fa), (r0, rdC ov (va_rf ol) r1 r2 r3 r4 r5), (r1, chC cf cl zn 0), (r2, chC cf cl zn 1), (r3, chC cf cl zn 2), (r4, chC cf cl zn 3), (r5, tlC cI tf), ((fa j 0), fwC (fa j 1) (fa j 9)), ((fa j 2), tmC tv), ((fa j 3), boC (fa j 4) (fa j 6) bv), ((fa j 4), mkC (fa j 5)), ((fa j 5), .inl (cJ, 4, .inr (.inl f))), ((fa j 6), mkC (fa j 7)), ((fa j 7), .inl (cJ, 4, .inr (.inl g))), ((fa j 8), cuC cv), ((fa j 9), rcC (FX j 0) rv (FX j 3) (fa j 10)), ((fa j 10), mkC (fa j 11)), ((fa j 11), .inl (cJ, 4, .inr (.inl kf))), ((fa j 1), snC (FX j 0) (FX j 1) (ag2 (FX j 2) a2) sv (fa j 2) (fa j 3) (fa j 8))]) (Y := [(b0, cbC r0 fl nw), (fl, flC cO n fa), (r0, rdC ov (va_rf ol) r1 r2 r3 r4 r5), (r1, chC cf cl zn 0), (r2, chC cf cl zn 1), (r3, chC cf cl zn 2), (r4, chC cf cl zn 3), (r5, tlC cI tf), ((fa j 0), fwC (fa j 1) (fa j 9)), ((fa j 1), snC (FX j 0) (FX j 1) (ag2 (FX j 2) a2) sv (fa j 2) (fa j 3) (fa j 8)), ((fa j 2), tmC tv), ((fa j 3), boC (fa j 4) (fa j 6) bv), ((fa j 4), mkC (fa j 5)), ((fa j 5), .inl (cJ, 4, .inr (.inl f))), ((fa j 6), mkC (fa j 7)), ((fa j 7), .inl (cJ, 4, .inr (.inl g))), ((fa j 8), cuC cv), ((fa j 9), rcC (FX j 0) rv (FX j 3) (fa j 10)), ((fa j 10), mkC (fa j 11)), ((fa j 11), .inl (cJ, 4, .inr (.inl kf)))]) (N := 20) [0, 1, 2, 3, 4, 5, 6, 7, 8, 19, 9, 10, 11, 12, 13, 14, 15, 16, 17, 18] rfl rfl (by decide))
      have hP := hP.perm hpo
      have hD := hD.perm hpo
      clear hpo
      have hP : va_P D vwCl (([(b0, cbC r0 fl nw), (fl, flC cO n fa), (r0, rdC ov (va_rf ol) r1 r2 r3 r4 r5), (r1, chC cf cl zn 0), (r2, chC cf cl zn 1), (r3, chC cf cl zn 2), (r4, chC cf cl zn 3), (r5, tlC cI tf), ((fa j 0), fwC (fa j 1) (fa j 9)), ((fa j 1), snC (FX j 0) (FX j 1) (ag2 (FX j 2) a2) sv (fa j 2) (fa j 3) (fa j 8)), ((fa j 2), tmC tv), ((fa j 3), boC (fa j 4) (fa j 6) bv), ((fa j 4), mkC (fa j 5)), ((fa j 5), .inl (cJ, 4, .inr (.inl f))), ((fa j 6), mkC (fa j 7)), ((fa j 7), .inl (cJ, 4, .inr (.inl g))), ((fa j 8), cuC cv), ((fa j 9), rcC (FX j 0) rv (FX j 3) (fa j 10)), ((fa j 10), mkC (fa j 11)), ((fa j 11), .inl (cJ, 4, .inr (.inl kf)))] ++ va_pl L (pf cJ kd pi bd af bo)) ++ (FA_14 ++ FB_15)) H := hP
      have hD : va_D A (([(b0, cbC r0 fl nw), (fl, flC cO n fa), (r0, rdC ov (va_rf ol) r1 r2 r3 r4 r5), (r1, chC cf cl zn 0), (r2, chC cf cl zn 1), (r3, chC cf cl zn 2), (r4, chC cf cl zn 3), (r5, tlC cI tf), ((fa j 0), fwC (fa j 1) (fa j 9)), ((fa j 1), snC (FX j 0) (FX j 1) (ag2 (FX j 2) a2) sv (fa j 2) (fa j 3) (fa j 8)), ((fa j 2), tmC tv), ((fa j 3), boC (fa j 4) (fa j 6) bv), ((fa j 4), mkC (fa j 5)), ((fa j 5), .inl (cJ, 4, .inr (.inl f))), ((fa j 6), mkC (fa j 7)), ((fa j 7), .inl (cJ, 4, .inr (.inl g))), ((fa j 8), cuC cv), ((fa j 9), rcC (FX j 0) rv (FX j 3) (fa j 10)), ((fa j 10), mkC (fa j 11)), ((fa j 11), .inl (cJ, 4, .inr (.inl kf)))] ++ va_pl L (pf cJ kd pi bd af bo)) ++ (FA_14 ++ FB_15)) := hD
      refine W.widen (k := 0) (n := 0) (Nat.le_of_ble_eq_true rfl) (Nat.le_of_ble_eq_true rfl) ?_
      have hr_18 := hw
      have hpo := pm_close (X := [(b0, cbC r0 fl nw), (fl, flC cO n fa), (r0, rdC ov (va_rf ol) r1 r2 r3 r4 r5), (r1, chC cf cl zn 0), (r2, chC cf cl zn 1), (r3, chC cf cl zn 2), (r4, chC cf cl zn 3), (r5, tlC cI tf)]) (c := [((fa j 0), fwC (fa j 1) (fa j 9)), ((fa j 1), snC (FX j 0) (FX j 1) (ag2 (FX j 2) a2) sv (fa j 2) (fa j 3) (fa j 8)), ((fa j 2), tmC tv), ((fa j 3), boC (fa j 4) (fa j 6) bv), ((fa j 4), mkC (fa j 5)), ((fa j 5), .inl (cJ, 4, .inr (.inl f))), ((fa j 6), mkC (fa j 7)), ((fa j 7), .inl (cJ, 4, .inr (.inl g))), ((fa j 8), cuC cv), ((fa j 9), rcC (FX j 0) rv (FX j 3) (fa j 10)), ((fa j 10), mkC (fa j 11)), ((fa j 11), .inl (cJ, 4, .inr (.inl kf)))]) (pl := va_pl L (pf cJ kd pi bd af bo)) (fls_upX2 (v := (ag2 (FX j 2) a2)) (sv := sv) (tv := tv) (bv := bv) (cv := cv) (rv := rv) (f := f) (g := g) (kf := kf) hfu_17) (perm_idx (X := [(b0, cbC r0 fl nw), (fl, flC cO n fa), (r0, rdC ov (va_rf ol) r1 r2 r3 r4 r5), (r1, chC cf cl zn 0), (r2, chC cf cl zn 1), (r3, chC cf cl zn 2), (r4, chC cf cl zn 3), (r5, tlC cI tf), ((fa j 0), fwC (fa j 1) (fa j 9)), ((fa j 1), snC (FX j 0) (FX j 1) (ag2 (FX j 2) a2) sv (fa j 2) (fa j 3) (fa j 8)), ((fa j 2), tmC tv), ((fa j 3), boC (fa j 4) (fa j 6) bv), ((fa j 4), mkC (fa j 5)), ((fa j 5), .inl (cJ, 4, .inr (.inl f))), ((fa j 6), mkC (fa j 7)), ((fa j 7), .inl (cJ, 4, .inr (.inl g))), ((fa j 8), cuC cv), ((fa j 9), rcC (FX j 0) rv (FX j 3) (fa j 10)), ((fa j 10), mkC (fa j 11)), ((fa j 11), .inl (cJ, 4, .inr (.inl kf)))]) (Y := [(b0, cbC r0 fl nw), (fl, flC cO n fa), (r0, rdC ov (va_rf ol) r1 r2 r3 r4 r5), (r1, chC cf cl zn 0), (r2, chC cf cl zn 1), (r3, chC cf cl zn 2), (r4, chC cf cl zn 3), (r5, tlC cI tf), ((fa j 0), fwC (fa j 1) (fa j 9)), ((fa j 1), snC (FX j 0) (FX j 1) (ag2 (FX j 2) a2) sv (fa j 2) (fa j 3) (fa j 8)), ((fa j 2), tmC tv), ((fa j 3), boC (fa j 4) (fa j 6) bv), ((fa j 4), mkC (fa j 5)), ((fa j 5), .inl (cJ, 4, .inr (.inl f))), ((fa j 6), mkC (fa j 7)), ((fa j 7), .inl (cJ, 4, .inr (.inl g))), ((fa j 8), cuC cv), ((fa j 9), rcC (FX j 0) rv (FX j 3) (fa j 10)), ((fa j 10), mkC (fa j 11)), ((fa j 11), .inl (cJ, 4, .inr (.inl kf)))]) (N := 20) [0, 1, 2, 3, 4, 5, 6, 7, 8, 9, 10, 11, 12, 13, 14, 15, 16, 17, 18, 19] rfl rfl (by decide))
      have hP := hP.perm hpo
      have hD := hD.perm hpo
      clear hpo hfu_17
      have hP : va_P D vwCl (([(b0, cbC r0 fl nw), (fl, flC cO n fa), (r0, rdC ov (va_rf ol) r1 r2 r3 r4 r5), (r1, chC cf cl zn 0), (r2, chC cf cl zn 1), (r3, chC cf cl zn 2), (r4, chC cf cl zn 3), (r5, tlC cI tf)] ++ va_pl L (pf cJ kd pi bd af bo)) ++ fls cJ fa (va_up FX j (upd (FX j) 2 (ag2 (FX j 2) a2))) (va_up FV j (fpk sv tv bv cv rv)) (va_up FJ j (fpj f g kf)) n) H := hP
      have hD : va_D A (([(b0, cbC r0 fl nw), (fl, flC cO n fa), (r0, rdC ov (va_rf ol) r1 r2 r3 r4 r5), (r1, chC cf cl zn 0), (r2, chC cf cl zn 1), (r3, chC cf cl zn 2), (r4, chC cf cl zn 3), (r5, tlC cI tf)] ++ va_pl L (pf cJ kd pi bd af bo)) ++ fls cJ fa (va_up FX j (upd (FX j) 2 (ag2 (FX j 2) a2))) (va_up FV j (fpk sv tv bv cv rv)) (va_up FJ j (fpj f g kf)) n) := hD
      generalize hfv : va_up FV j (fpk sv tv bv cv rv) = FV at hP hD
      generalize hfj : va_up FJ j (fpj f g kf) = FJ at hP hD
      have hE := bs_at hfv hE
      have hE := bs_at hfj hE
      have hP9 : va_P D vwCl (([(b0, cbC r0 fl nw), (fl, flC cO n fa), (r0, rdC ov (va_rf ol) r1 r2 r3 r4 r5), (r1, chC cf cl zn 0), (r2, chC cf cl zn 1), (r3, chC cf cl zn 2), (r4, chC cf cl zn 3), (r5, tlC cI tf)] ++ va_pl L (pf cJ kd pi bd af bo)) ++ fls cJ fa (va_up FX j (upd (FX j) 2 (ag2 (FX j 2) a2))) FV FJ n) _ := hP
      have hD9 : va_D A (([(b0, cbC r0 fl nw), (fl, flC cO n fa), (r0, rdC ov (va_rf ol) r1 r2 r3 r4 r5), (r1, chC cf cl zn 0), (r2, chC cf cl zn 1), (r3, chC cf cl zn 2), (r4, chC cf cl zn 3), (r5, tlC cI tf)] ++ va_pl L (pf cJ kd pi bd af bo)) ++ fls cJ fa (va_up FX j (upd (FX j) 2 (ag2 (FX j 2) a2))) FV FJ n) := hD
      exact W.iret (v := r_18) hx hb hr (fun t ht hW => ⟨⟨r_18, (va_up FX j (upd (FX j) 2 (ag2 (FX j 2) a2))), rfl, Or.inr ⟨j, hj, rfl, by rw [← hr_12]; exact c_13, hr_18, rfl⟩, ⟨FV, FJ, ⟨(by rw [← hRES, hE]), (by rw [← hRES, hE])⟩, by rw [ht]; exact hP9, va_K.moved hW.alike hK, hD9⟩⟩, hS.F ht⟩) hS.2.2 dX10_send_33
    · have hE := hE.trans (if_pos c_13)
      refine lv_iconst (v := (-1)) hx hb dX10_send_18 (by decide) ?_
      have hP9 : va_P D vwCl (([(b0, cbC r0 fl nw), (fl, flC cO n fa), (r0, rdC ov (va_rf ol) r1 r2 r3 r4 r5), (r1, chC cf cl zn 0), (r2, chC cf cl zn 1), (r3, chC cf cl zn 2), (r4, chC cf cl zn 3), (r5, tlC cI tf)] ++ va_pl L (pf cJ kd pi bd af bo)) ++ fls cJ fa FX FV FJ n) _ := hP
      have hD9 : va_D A (([(b0, cbC r0 fl nw), (fl, flC cO n fa), (r0, rdC ov (va_rf ol) r1 r2 r3 r4 r5), (r1, chC cf cl zn 0), (r2, chC cf cl zn 1), (r3, chC cf cl zn 2), (r4, chC cf cl zn 3), (r5, tlC cI tf)] ++ va_pl L (pf cJ kd pi bd af bo)) ++ fls cJ fa FX FV FJ n) := hD
      exact W.iret (v := (-1)) hx hb hr (fun t ht hW => ⟨⟨(-1), FX, rfl, Or.inl ⟨rfl, rfl, Or.inr (hr_12.symm.trans c_13)⟩, ⟨FV, FJ, ⟨(by rw [← hRES, hE]), (by rw [← hRES, hE])⟩, by rw [ht]; exact hP9, va_K.moved hW.alike hK, hD9⟩⟩, hS.F ht⟩) hS.2.2 dX10_send_19

def xc_window (n : Nat) (FX : Nat → Nat → Int32) (FV : FVt) (FJ : FJt) (a1 a2 : Int32) : FVt × FJt := bd (isf a1 n) (fun r1 => if r1 = 0 then (FV, FJ) else bd (wi a2 0 200) (fun r2 => if r2 = 0 then (FV, FJ) else bd (xc_changeWin (FX a1.toNatClampNeg 0) (FX a1.toNatClampNeg 3) (FV a1.toNatClampNeg 4) a2) (fun t1 => bd t1 (fun rv => bd (va_up FV a1.toNatClampNeg (fpk (FV a1.toNatClampNeg 0) (FV a1.toNatClampNeg 1) (FV a1.toNatClampNeg 2) (FV a1.toNatClampNeg 3) rv)) (fun FV => bd (va_up FJ a1.toNatClampNeg (fpj (FJ a1.toNatClampNeg 0) (FJ a1.toNatClampNeg 1) (FJ a1.toNatClampNeg 2))) (fun FJ => (FV, FJ)))))))
set_option maxHeartbeats 4000000 in
set_option maxRecDepth 100000 in
theorem s_window (l : Launch) (D : va_G) (cI cJ cZ cO : ClassId) (sz : Nat) (b0 fl : Nat) (nw : Int32) (n : Nat) (fa : Nat → Nat → Nat) (FX : Nat → Nat → Int32) (FV : Nat → Nat → Nat → Int32) (FJ : Nat → Nat → Nat → Int64) (hn : n ≤ 4) (r0 r1 r2 r3 r4 r5 : Nat) (ov : Nat → Int32) (ol : Option Nat) (cf cl : Nat → Option Nat) (zn : Nat → Int32) (xl : Nat → List Nat) (tag : Nat → Nat) (L : List Nat) (kd : Nat → Bool) (pi : Nat → Nat → Int32) (bd : Nat → Nat) (af : Nat → Option Nat) (bo : Nat → Nat → Int64) (go : Option S4) (gq : List S3) (gw : List S4) (ga : List A6) (tf : Nat → Int32) (a1 a2 : Int32) : Met l yX10_window (wa yX10_window cX10_window 3 (some .int)) ({ frames := 1, cells := 0, slots := 0, locals := 22 }) (va_Pc [.ref b0, .int a1, .int a2] (pw_s D cI cJ cZ cO sz (([(b0, cbC r0 fl nw), (fl, flC cO n fa), (r0, rdC ov (va_rf ol) r1 r2 r3 r4 r5), (r1, chC cf cl zn 0), (r2, chC cf cl zn 1), (r3, chC cf cl zn 2), (r4, chC cf cl zn 3), (r5, tlC cI tf)] ++ va_pl L (pf cJ kd pi bd af bo)) ++ fls cJ fa FX FV FJ n))) (va_Qi (fun (r : Int32) (ub : (Nat → Nat → Int32)) => WND n FX a1 a2 r ub) (fun (ub : (Nat → Nat → Int32)) (t : State) => ∃ (FV2 : Nat → Nat → Nat → Int32) (FJ2 : Nat → Nat → Nat → Int64), (FV2 = (xc_window n FX FV FJ a1 a2).1 ∧ FJ2 = (xc_window n FX FV FJ a1 a2).2) ∧ pw_t D cI cJ cZ cO (va_A (([(b0, cbC r0 fl nw), (fl, flC cO n fa), (r0, rdC ov (va_rf ol) r1 r2 r3 r4 r5), (r1, chC cf cl zn 0), (r2, chC cf cl zn 1), (r3, chC cf cl zn 2), (r4, chC cf cl zn 3), (r5, tlC cI tf)] ++ va_pl L (pf cJ kd pi bd af bo)) ++ fls cJ fa FX FV FJ n) sz) (([(b0, cbC r0 fl nw), (fl, flC cO n fa), (r0, rdC ov (va_rf ol) r1 r2 r3 r4 r5), (r1, chC cf cl zn 0), (r2, chC cf cl zn 1), (r3, chC cf cl zn 2), (r4, chC cf cl zn 3), (r5, tlC cI tf)] ++ va_pl L (pf cJ kd pi bd af bo)) ++ fls cJ fa ub FV2 FJ2 n) t) (va_A (([(b0, cbC r0 fl nw), (fl, flC cO n fa), (r0, rdC ov (va_rf ol) r1 r2 r3 r4 r5), (r1, chC cf cl zn 0), (r2, chC cf cl zn 1), (r3, chC cf cl zn 2), (r4, chC cf cl zn 3), (r5, tlC cI tf)] ++ va_pl L (pf cJ kd pi bd af bo)) ++ fls cJ fa FX FV FJ n) sz)) 0 0 (va_A (([(b0, cbC r0 fl nw), (fl, flC cO n fa), (r0, rdC ov (va_rf ol) r1 r2 r3 r4 r5), (r1, chC cf cl zn 0), (r2, chC cf cl zn 1), (r3, chC cf cl zn 2), (r4, chC cf cl zn 3), (r5, tlC cI tf)] ++ va_pl L (pf cJ kd pi bd af bo)) ++ fls cJ fa FX FV FJ n) sz) := by
  refine Met.ofW (cc := cX10_window) (maxL := 3) (ret := (some .int)) (by decide) rfl ?_
  intro p e s m args below meth c s₁ B hml hv
  obtain ⟨rfl, hsz, hP, hK, hD0, hN⟩ := hv
  have hx := B.exec
  have hb := B.bytes
  have hr := B.returns
  have hts := atoms_spec (ws := (wa yX10_window cX10_window 3 (some .int))) B.pre
  have ha : ∀ w ∈ wsL_law, w.before _ s = true := fun w h => hts w (List.mem_cons_of_mem _ h)
  have hown : s.vm.findClass RX10 = some m.cls := findClass_of_methodNamed B.named
  have hlocks := B.notSynchronized
  subst hsz
  have hD := hD0.self (sz := s.heap.size)
  generalize hAe : va_A (([(b0, cbC r0 fl nw), (fl, flC cO n fa), (r0, rdC ov (va_rf ol) r1 r2 r3 r4 r5), (r1, chC cf cl zn 0), (r2, chC cf cl zn 1), (r3, chC cf cl zn 2), (r4, chC cf cl zn 3), (r5, tlC cI tf)] ++ va_pl L (pf cJ kd pi bd af bo)) ++ fls cJ fa FX FV FJ n) s.heap.size = A at hD ⊢
  have hA : ∀ q : Nat, s.heap.size ≤ q → A q := fun q h => by rw [← hAe]; exact Or.inr h
  have hS : va_S A s.heap s.heap [] := va_S.rf
  have hP : va_P D vwCl (([(b0, cbC r0 fl nw), (fl, flC cO n fa), (r0, rdC ov (va_rf ol) r1 r2 r3 r4 r5), (r1, chC cf cl zn 0), (r2, chC cf cl zn 1), (r3, chC cf cl zn 2), (r4, chC cf cl zn 3), (r5, tlC cI tf)] ++ va_pl L (pf cJ kd pi bd af bo)) ++ fls cJ fa FX FV FJ n) s.heap := hP
  have hl := lv_entry ([.ref b0, .int a1, .int a2]) (n := 3) (Nat.le_of_ble_eq_true rfl)
  rw [lg_entry_eq]
  generalize (lg_sl ([.ref b0, .int a1, .int a2]) ++ List.replicate (3 - (lg_sl ([.ref b0, .int a1, .int a2])).length) Slot.unset).toArray = ls at hl ⊢
  have hl : lv_has ls 3 [(0, .ref b0), (1, .int a1), (2, .int a2)] := hl
  obtain ⟨QP, hQP⟩ : ∃ y : State → Prop, y = (MQ below (va_Qi (fun (r : Int32) (ub : (Nat → Nat → Int32)) => WND n FX a1 a2 r ub) (fun (ub : (Nat → Nat → Int32)) (t : State) => ∃ (FV2 : Nat → Nat → Nat → Int32) (FJ2 : Nat → Nat → Nat → Int64), (FV2 = (xc_window n FX FV FJ a1 a2).1 ∧ FJ2 = (xc_window n FX FV FJ a1 a2).2) ∧ pw_t D cI cJ cZ cO A (([(b0, cbC r0 fl nw), (fl, flC cO n fa), (r0, rdC ov (va_rf ol) r1 r2 r3 r4 r5), (r1, chC cf cl zn 0), (r2, chC cf cl zn 1), (r3, chC cf cl zn 2), (r4, chC cf cl zn 3), (r5, tlC cI tf)] ++ va_pl L (pf cJ kd pi bd af bo)) ++ fls cJ fa ub FV2 FJ2 n) t) A) #[(.ref b0 : Value), (.int a1 : Value), (.int a2 : Value)] s 0 0 A) := ⟨_, rfl⟩
  obtain ⟨RES, hRES⟩ : ∃ y, y = (xc_window n FX FV FJ a1 a2) := ⟨_, rfl⟩
  -- from the entry
  have hE := hRES
  unfold xc_window at hE
  refine lv_aload_n hx hb dX10_window_0 rfl (lv_at hl 0 rfl) ?_
  refine lv_iload_n hx hb dX10_window_1 rfl (lv_at hl 1 rfl) ?_
  have hp0 := perm_idx (X := [(b0, cbC r0 fl nw), (fl, flC cO n fa), (r0, rdC ov (va_rf ol) r1 r2 r3 r4 r5), (r1, chC cf cl zn 0), (r2, chC cf cl zn 1), (r3, chC cf cl zn 2), (r4, chC cf cl zn 3), (r5, tlC cI tf)]) (Y := [(b0, cbC r0 fl nw), (fl, flC cO n fa)] ++ [(r0, rdC ov (va_rf ol) r1 r2 r3 r4 r5), (r1, chC cf cl zn 0), (r2, chC cf cl zn 1), (r3, chC cf cl zn 2), (r4, chC cf cl zn 3), (r5, tlC cI tf)]) (N := 8) [0, 1, 2, 3, 4, 5, 6, 7] rfl rfl (by decide)
  have hPq := hP.perm (pm_Q (cx := [(b0, cbC r0 fl nw), (fl, flC cO n fa)]) (xr := [(r0, rdC ov (va_rf ol) r1 r2 r3 r4 r5), (r1, chC cf cl zn 0), (r2, chC cf cl zn 1), (r3, chC cf cl zn 2), (r4, chC cf cl zn 3), (r5, tlC cI tf)]) (pl := va_pl L (pf cJ kd pi bd af bo)) (R := fls cJ fa FX FV FJ n) hp0)
  have hDq := hD.perm (pm_Q (cx := [(b0, cbC r0 fl nw), (fl, flC cO n fa)]) (xr := [(r0, rdC ov (va_rf ol) r1 r2 r3 r4 r5), (r1, chC cf cl zn 0), (r2, chC cf cl zn 1), (r3, chC cf cl zn 2), (r4, chC cf cl zn 3), (r5, tlC cI tf)]) (pl := va_pl L (pf cJ kd pi bd af bo)) (R := fls cJ fa FX FV FJ n) hp0)
  have hPc := hPq.left
  have hDc := hDq.left
  have hFc := va_freeR hDq hS hA
  refine va_calli (va_runV (As := [.int a1]) (rest := []) ⟨hx, hb, hml, hown, ha⟩ (c_isFlow l D cI cJ cZ cO _ b0 r0 fl nw n (fun i => some (fa i 0)) a1) (cwV 1 ha (gaV kl_X10_33 km_X10_isFlow ks_X10_isFlow kz_X10 kd_X10_isFlow) rfl rfl rfl (by decide +kernel) ⟨Nat.le_of_ble_eq_true rfl, Nat.le_of_ble_eq_true rfl⟩) ⟨pw_blind, va_recv hK hPc (ci := 10) (q0 := 0) rfl rfl, fun U hU hW => ⟨rfl, pw_start hU hW hPc hK hDc hN⟩⟩ rfl rfl hl.1 rfl (lv_room (Nat.le_of_ble_eq_true rfl)) dX10_window_2 ⟨Nat.le_of_ble_eq_true rfl, Nat.le_of_ble_eq_true rfl⟩) hS (fun q _ h => hFc q h) hFc (fun r_12 u t H1 locs ht hvm hw hB hz1 hk1 hS => ?_)
  obtain ⟨hP1, hK1, hD1⟩ := hB
  rw [ht] at hP1
  obtain ⟨hP, hD⟩ := va_joinR (w1 := [(b0, cbC r0 fl nw), (fl, flC cO n fa)]) hPq hDq hk1 hFc hP1 hD1
  have hP := hP.perm (pm_Qb (xr := [(r0, rdC ov (va_rf ol) r1 r2 r3 r4 r5), (r1, chC cf cl zn 0), (r2, chC cf cl zn 1), (r3, chC cf cl zn 2), (r4, chC cf cl zn 3), (r5, tlC cI tf)]) (w1 := [(b0, cbC r0 fl nw), (fl, flC cO n fa)]) (pl := va_pl L (pf cJ kd pi bd af bo)) (R := fls cJ fa FX FV FJ n))
  have hD := hD.perm (pm_Qb (xr := [(r0, rdC ov (va_rf ol) r1 r2 r3 r4 r5), (r1, chC cf cl zn 0), (r2, chC cf cl zn 1), (r3, chC cf cl zn 2), (r4, chC cf cl zn 3), (r5, tlC cI tf)]) (w1 := [(b0, cbC r0 fl nw), (fl, flC cO n fa)]) (pl := va_pl L (pf cJ kd pi bd af bo)) (R := fls cJ fa FX FV FJ n))
  clear hp0 hPq hDq hPc hDc hP1 hD1
  generalize H1 = H at hP hS ⊢
  have hP : va_P D vwCl (([(r0, rdC ov (va_rf ol) r1 r2 r3 r4 r5), (r1, chC cf cl zn 0), (r2, chC cf cl zn 1), (r3, chC cf cl zn 2), (r4, chC cf cl zn 3), (r5, tlC cI tf), (b0, cbC r0 fl nw), (fl, flC cO n fa)] ++ va_pl L (pf cJ kd pi bd af bo)) ++ fls cJ fa FX FV FJ n) H := hP
  have hD : va_D A (([(r0, rdC ov (va_rf ol) r1 r2 r3 r4 r5), (r1, chC cf cl zn 0), (r2, chC cf cl zn 1), (r3, chC cf cl zn 2), (r4, chC cf cl zn 3), (r5, tlC cI tf), (b0, cbC r0 fl nw), (fl, flC cO n fa)] ++ va_pl L (pf cJ kd pi bd af bo)) ++ fls cJ fa FX FV FJ n) := hD
  have hpo := pm_X (pl := va_pl L (pf cJ kd pi bd af bo)) (R := fls cJ fa FX FV FJ n) (perm_idx (X := [(r0, rdC ov (va_rf ol) r1 r2 r3 r4 r5), (r1, chC cf cl zn 0), (r2, chC cf cl zn 1), (r3, chC cf cl zn 2), (r4, chC cf cl zn 3), (r5, tlC cI tf), (b0, cbC r0 fl nw), (fl, flC cO n fa)]) (Y := [(b0, cbC r0 fl nw), (fl, flC cO n fa), (r0, rdC ov (va_rf ol) r1 r2 r3 r4 r5), (r1, chC cf cl zn 0), (r2, chC cf cl zn 1), (r3, chC cf cl zn 2), (r4, chC cf cl zn 3), (r5, tlC cI tf)]) (N := 8) [6, 7, 0, 1, 2, 3, 4, 5] rfl rfl (by decide))
  have hP := hP.perm hpo
  have hD := hD.perm hpo
  clear hpo
  have hP : va_P D vwCl (([(b0, cbC r0 fl nw), (fl, flC cO n fa), (r0, rdC ov (va_rf ol) r1 r2 r3 r4 r5), (r1, chC cf cl zn 0), (r2, chC cf cl zn 1), (r3, chC cf cl zn 2), (r4, chC cf cl zn 3), (r5, tlC cI tf)] ++ va_pl L (pf cJ kd pi bd af bo)) ++ fls cJ fa FX FV FJ n) H := hP
  have hD : va_D A (([(b0, cbC r0 fl nw), (fl, flC cO n fa), (r0, rdC ov (va_rf ol) r1 r2 r3 r4 r5), (r1, chC cf cl zn 0), (r2, chC cf cl zn 1), (r3, chC cf cl zn 2), (r4, chC cf cl zn 3), (r5, tlC cI tf)] ++ va_pl L (pf cJ kd pi bd af bo)) ++ fls cJ fa FX FV FJ n) := hD
  refine W.widen (k := 0) (n := 0) (Nat.le_of_ble_eq_true rfl) (Nat.le_of_ble_eq_true rfl) ?_
  have hr_12 := hw
  have hE := bd_at hr_12 hE
  refine lv_if_eq (tgt := 19) hx hb dX10_window_5 (by decide) (fun c_13 => ?_) (fun c_13 => ?_)
  · have hE := hE.trans (if_pos c_13)
    refine lv_iconst (v := (-1)) hx hb dX10_window_19 (by decide) ?_
    have hP9 : va_P D vwCl (([(b0, cbC r0 fl nw), (fl, flC cO n fa), (r0, rdC ov (va_rf ol) r1 r2 r3 r4 r5), (r1, chC cf cl zn 0), (r2, chC cf cl zn 1), (r3, chC cf cl zn 2), (r4, chC cf cl zn 3), (r5, tlC cI tf)] ++ va_pl L (pf cJ kd pi bd af bo)) ++ fls cJ fa FX FV FJ n) _ := hP
    have hD9 : va_D A (([(b0, cbC r0 fl nw), (fl, flC cO n fa), (r0, rdC ov (va_rf ol) r1 r2 r3 r4 r5), (r1, chC cf cl zn 0), (r2, chC cf cl zn 1), (r3, chC cf cl zn 2), (r4, chC cf cl zn 3), (r5, tlC cI tf)] ++ va_pl L (pf cJ kd pi bd af bo)) ++ fls cJ fa FX FV FJ n) := hD
    exact W.iret (v := (-1)) hx hb hr (fun t ht hW => ⟨⟨(-1), FX, rfl, Or.inl ⟨rfl, rfl, Or.inl (hr_12.symm.trans c_13)⟩, ⟨FV, FJ, ⟨(by rw [← hRES, hE]), (by rw [← hRES, hE])⟩, by rw [ht]; exact hP9, va_K.moved hW.alike hK, hD9⟩⟩, hS.F ht⟩) hS.2.2 dX10_window_20
  · have hE := hE.trans (if_neg c_13)
    refine lv_iload_n hx hb dX10_window_8 rfl (lv_at hl 2 rfl) ?_
    refine lv_iconst (v := 0) hx hb dX10_window_9 (by decide) ?_
    refine lv_sipush (v := 200) hx hb dX10_window_10 (by decide) ?_
    have hp0 := perm_idx (X := [(b0, cbC r0 fl nw), (fl, flC cO n fa), (r0, rdC ov (va_rf ol) r1 r2 r3 r4 r5), (r1, chC cf cl zn 0), (r2, chC cf cl zn 1), (r3, chC cf cl zn 2), (r4, chC cf cl zn 3), (r5, tlC cI tf)]) (Y := [] ++ [(b0, cbC r0 fl nw), (fl, flC cO n fa), (r0, rdC ov (va_rf ol) r1 r2 r3 r4 r5), (r1, chC cf cl zn 0), (r2, chC cf cl zn 1), (r3, chC cf cl zn 2), (r4, chC cf cl zn 3), (r5, tlC cI tf)]) (N := 8) [0, 1, 2, 3, 4, 5, 6, 7] rfl rfl (by decide)
    have hPq := hP.perm (pm_Q (cx := []) (xr := [(b0, cbC r0 fl nw), (fl, flC cO n fa), (r0, rdC ov (va_rf ol) r1 r2 r3 r4 r5), (r1, chC cf cl zn 0), (r2, chC cf cl zn 1), (r3, chC cf cl zn 2), (r4, chC cf cl zn 3), (r5, tlC cI tf)]) (pl := va_pl L (pf cJ kd pi bd af bo)) (R := fls cJ fa FX FV FJ n) hp0)
    have hDq := hD.perm (pm_Q (cx := []) (xr := [(b0, cbC r0 fl nw), (fl, flC cO n fa), (r0, rdC ov (va_rf ol) r1 r2 r3 r4 r5), (r1, chC cf cl zn 0), (r2, chC cf cl zn 1), (r3, chC cf cl zn 2), (r4, chC cf cl zn 3), (r5, tlC cI tf)]) (pl := va_pl L (pf cJ kd pi bd af bo)) (R := fls cJ fa FX FV FJ n) hp0)
    have hPc := hPq.left
    have hDc := hDq.left
    have hFc := va_freeR hDq hS hA
    refine va_calli (va_runS (As := [.int a2, .int 0, .int 200]) (rest := []) ⟨hx, hb, hml, hown, ha⟩ (c_within l D cI cJ cZ cO _ a2 0 200) (va_cwS 3 ha (gaS kl_X10_22 kt_X10_within kz_X10 kd_X10_within) rfl rfl rfl (by decide +kernel) ⟨Nat.le_of_ble_eq_true rfl, Nat.le_of_ble_eq_true rfl⟩) ⟨pw_blind, fun U hU hW => ⟨rfl, pw_start hU hW hPc hK hDc hN⟩⟩ rfl rfl hl.1 rfl (lv_room (Nat.le_of_ble_eq_true rfl)) dX10_window_13 ⟨Nat.le_of_ble_eq_true rfl, Nat.le_of_ble_eq_true rfl⟩) hS (fun q _ h => hFc q h) hFc (fun r_14 u t H1 locs ht hvm hw hB hz1 hk1 hS => ?_)
    obtain ⟨hP1, hK1, hD1⟩ := hB
    rw [ht] at hP1
    obtain ⟨hP, hD⟩ := va_joinR (w1 := []) hPq hDq hk1 hFc hP1 hD1
    have hP := hP.perm (pm_Qb (xr := [(b0, cbC r0 fl nw), (fl, flC cO n fa), (r0, rdC ov (va_rf ol) r1 r2 r3 r4 r5), (r1, chC cf cl zn 0), (r2, chC cf cl zn 1), (r3, chC cf cl zn 2), (r4, chC cf cl zn 3), (r5, tlC cI tf)]) (w1 := []) (pl := va_pl L (pf cJ kd pi bd af bo)) (R := fls cJ fa FX FV FJ n))
    have hD := hD.perm (pm_Qb (xr := [(b0, cbC r0 fl nw), (fl, flC cO n fa), (r0, rdC ov (va_rf ol) r1 r2 r3 r4 r5), (r1, chC cf cl zn 0), (r2, chC cf cl zn 1), (r3, chC cf cl zn 2), (r4, chC cf cl zn 3), (r5, tlC cI tf)]) (w1 := []) (pl := va_pl L (pf cJ kd pi bd af bo)) (R := fls cJ fa FX FV FJ n))
    clear hp0 hPq hDq hPc hDc hP1 hD1
    generalize H1 = H at hP hS ⊢
    have hP : va_P D vwCl (([(b0, cbC r0 fl nw), (fl, flC cO n fa), (r0, rdC ov (va_rf ol) r1 r2 r3 r4 r5), (r1, chC cf cl zn 0), (r2, chC cf cl zn 1), (r3, chC cf cl zn 2), (r4, chC cf cl zn 3), (r5, tlC cI tf)] ++ va_pl L (pf cJ kd pi bd af bo)) ++ fls cJ fa FX FV FJ n) H := hP
    have hD : va_D A (([(b0, cbC r0 fl nw), (fl, flC cO n fa), (r0, rdC ov (va_rf ol) r1 r2 r3 r4 r5), (r1, chC cf cl zn 0), (r2, chC cf cl zn 1), (r3, chC cf cl zn 2), (r4, chC cf cl zn 3), (r5, tlC cI tf)] ++ va_pl L (pf cJ kd pi bd af bo)) ++ fls cJ fa FX FV FJ n) := hD
    refine W.widen (k := 0) (n := 0) (Nat.le_of_ble_eq_true rfl) (Nat.le_of_ble_eq_true rfl) ?_
    have hr_14 := hw
    have hE := bd_at hr_14 hE
    refine lv_if_ne (tgt := 21) hx hb dX10_window_16 (by decide) (fun c_15 => ?_) (fun c_15 => ?_)
    · have hE := hE.trans (if_neg c_15)
      obtain ⟨j, hj, hxj⟩ := isf_j hn (by rw [← hr_12]; exact c_13)
      subst hxj
      rw [nI_clamp (show j < 2 ^ 31 by omega)] at hE
      refine lv_aload_n hx hb dX10_window_21 rfl (lv_at hl 0 rfl) ?_
      refine va_get (D := D) (ci := 10) (v := .ref fl) (C := RX10) (T := TX10) (N := 3) hx hb ha inlX10 hown hK hP 0 rfl rfl 1 (by decide) (ha _ kf_X10_18) (fun _ h9 => h9) rfl dX10_window_22 ?_
      refine lv_iload_n hx hb dX10_window_25 rfl (lv_at hl 1 rfl) ?_
      refine va_aldq hx hb hK hP 1 3 rfl rfl (vp_in_nI hj (by omega)) dX10_window_26 ?_
      rw [nI_clamp (show j < 2 ^ 31 by omega)]
      refine W.eq (g2 := F0 m 27 ls [.ref (fa j 0)]) rfl ?_
      obtain ⟨FA_16, FB_17, hfe_18, hfu_19⟩ := fls_at (cJ := cJ) (fa := fa) (FX := FX) (FV := FV) (FJ := FJ) hj
      have hpo := pm_open (X := [(b0, cbC r0 fl nw), (fl, flC cO n fa), (r0, rdC ov (va_rf ol) r1 r2 r3 r4 r5), (r1, chC cf cl zn 0), (r2, chC cf cl zn 1), (r3, chC cf cl zn 2), (r4, chC cf cl zn 3), (r5, tlC cI tf)]) (c := fcs cJ fa FX FV FJ j) (pl := va_pl L (pf cJ kd pi bd af bo)) hfe_18
      have hP := hP.perm hpo
      have hD := hD.perm hpo
      clear hpo
      have hP : va_P D vwCl (([(b0, cbC r0 fl nw), (fl, flC cO n fa), (r0, rdC ov (va_rf ol) r1 r2 r3 r4 r5), (r1, chC cf cl zn 0), (r2, chC cf cl zn 1), (r3, chC cf cl zn 2), (r4, chC cf cl zn 3), (r5, tlC cI tf), ((fa j 0), fwC (fa j 1) (fa j 9)), ((fa j 1), snC (FX j 0) (FX j 1) (FX j 2) (FV j 0) (fa j 2) (fa j 3) (fa j 8)), ((fa j 2), tmC (FV j 1)), ((fa j 3), boC (fa j 4) (fa j 6) (FV j 2)), ((fa j 4), mkC (fa j 5)), ((fa j 5), .inl (cJ, 4, .inr (.inl (FJ j 0)))), ((fa j 6), mkC (fa j 7)), ((fa j 7), .inl (cJ, 4, .inr (.inl (FJ j 1)))), ((fa j 8), cuC (FV j 3)), ((fa j 9), rcC (FX j 0) (FV j 4) (FX j 3) (fa j 10)), ((fa j 10), mkC (fa j 11)), ((fa j 11), .inl (cJ, 4, .inr (.inl (FJ j 2))))] ++ va_pl L (pf cJ kd pi bd af bo)) ++ (FA_16 ++ FB_17)) H := hP
      have hD : va_D A (([(b0, cbC r0 fl nw), (fl, flC cO n fa), (r0, rdC ov (va_rf ol) r1 r2 r3 r4 r5), (r1, chC cf cl zn 0), (r2, chC cf cl zn 1), (r3, chC cf cl zn 2), (r4, chC cf cl zn 3), (r5, tlC cI tf), ((fa j 0), fwC (fa j 1) (fa j 9)), ((fa j 1), snC (FX j 0) (FX j 1) (FX j 2) (FV j 0) (fa j 2) (fa j 3) (fa j 8)), ((fa j 2), tmC (FV j 1)), ((fa j 3), boC (fa j 4) (fa j 6) (FV j 2)), ((fa j 4), mkC (fa j 5)), ((fa j 5), .inl (cJ, 4, .inr (.inl (FJ j 0)))), ((fa j 6), mkC (fa j 7)), ((fa j 7), .inl (cJ, 4, .inr (.inl (FJ j 1)))), ((fa j 8), cuC (FV j 3)), ((fa j 9), rcC (FX j 0) (FV j 4) (FX j 3) (fa j 10)), ((fa j 10), mkC (fa j 11)), ((fa j 11), .inl (cJ, 4, .inr (.inl (FJ j 2))))] ++ va_pl L (pf cJ kd pi bd af bo)) ++ (FA_16 ++ FB_17)) := hD
      generalize hv0 : FV j 0 = sv at hP hD hE
      generalize hv1 : FV j 1 = tv at hP hD hE
      generalize hv2 : FV j 2 = bv at hP hD hE
      generalize hv3 : FV j 3 = cv at hP hD hE
      generalize hv4 : FV j 4 = rv at hP hD hE
      generalize hj0 : FJ j 0 = f at hP hD hE
      generalize hj1 : FJ j 1 = g at hP hD hE
      generalize hj2 : FJ j 2 = kf at hP hD hE
      refine va_getN (D := D) (ci := 3) (v := .ref (fa j 9)) (C := RX3) (T := TX3) (N := 2) hx hb ha inlX3 hown hK hP 8 rfl rfl 1 (by decide) (va_Nw.use rfl (hN.f RX10 48 "CongestionBench$Flow" "receiver" "LCongestionBench$Receiver;" "CongestionBench" (by decide +kernel))) (fun _ h9 => h9) rfl dX10_window_27 ?_
      refine lv_iload_n hx hb dX10_window_30 rfl (lv_at hl 2 rfl) ?_
      have hp0 := perm_idx (X := [(b0, cbC r0 fl nw), (fl, flC cO n fa), (r0, rdC ov (va_rf ol) r1 r2 r3 r4 r5), (r1, chC cf cl zn 0), (r2, chC cf cl zn 1), (r3, chC cf cl zn 2), (r4, chC cf cl zn 3), (r5, tlC cI tf), ((fa j 0), fwC (fa j 1) (fa j 9)), ((fa j 1), snC (FX j 0) (FX j 1) (FX j 2) sv (fa j 2) (fa j 3) (fa j 8)), ((fa j 2), tmC tv), ((fa j 3), boC (fa j 4) (fa j 6) bv), ((fa j 4), mkC (fa j 5)), ((fa j 5), .inl (cJ, 4, .inr (.inl f))), ((fa j 6), mkC (fa j 7)), ((fa j 7), .inl (cJ, 4, .inr (.inl g))), ((fa j 8), cuC cv), ((fa j 9), rcC (FX j 0) rv (FX j 3) (fa j 10)), ((fa j 10), mkC (fa j 11)), ((fa j 11), .inl (cJ, 4, .inr (.inl kf)))]) (Y := [((fa j 9), rcC (FX j 0) rv (FX j 3) (fa j 10))] ++ [(b0, cbC r0 fl nw), (fl, flC cO n fa), (r0, rdC ov (va_rf ol) r1 r2 r3 r4 r5), (r1, chC cf cl zn 0), (r2, chC cf cl zn 1), (r3, chC cf cl zn 2), (r4, chC cf cl zn 3), (r5, tlC cI tf), ((fa j 0), fwC (fa j 1) (fa j 9)), ((fa j 1), snC (FX j 0) (FX j 1) (FX j 2) sv (fa j 2) (fa j 3) (fa j 8)), ((fa j 2), tmC tv), ((fa j 3), boC (fa j 4) (fa j 6) bv), ((fa j 4), mkC (fa j 5)), ((fa j 5), .inl (cJ, 4, .inr (.inl f))), ((fa j 6), mkC (fa j 7)), ((fa j 7), .inl (cJ, 4, .inr (.inl g))), ((fa j 8), cuC cv), ((fa j 10), mkC (fa j 11)), ((fa j 11), .inl (cJ, 4, .inr (.inl kf)))]) (N := 20) [17, 0, 1, 2, 3, 4, 5, 6, 7, 8, 9, 10, 11, 12, 13, 14, 15, 16, 18, 19] rfl rfl (by decide)
      have hPq := hP.perm (pm_Q (cx := [((fa j 9), rcC (FX j 0) rv (FX j 3) (fa j 10))]) (xr := [(b0, cbC r0 fl nw), (fl, flC cO n fa), (r0, rdC ov (va_rf ol) r1 r2 r3 r4 r5), (r1, chC cf cl zn 0), (r2, chC cf cl zn 1), (r3, chC cf cl zn 2), (r4, chC cf cl zn 3), (r5, tlC cI tf), ((fa j 0), fwC (fa j 1) (fa j 9)), ((fa j 1), snC (FX j 0) (FX j 1) (FX j 2) sv (fa j 2) (fa j 3) (fa j 8)), ((fa j 2), tmC tv), ((fa j 3), boC (fa j 4) (fa j 6) bv), ((fa j 4), mkC (fa j 5)), ((fa j 5), .inl (cJ, 4, .inr (.inl f))), ((fa j 6), mkC (fa j 7)), ((fa j 7), .inl (cJ, 4, .inr (.inl g))), ((fa j 8), cuC cv), ((fa j 10), mkC (fa j 11)), ((fa j 11), .inl (cJ, 4, .inr (.inl kf)))]) (pl := va_pl L (pf cJ kd pi bd af bo)) (R := (FA_16 ++ FB_17)) hp0)
      have hDq := hD.perm (pm_Q (cx := [((fa j 9), rcC (FX j 0) rv (FX j 3) (fa j 10))]) (xr := [(b0, cbC r0 fl nw), (fl, flC cO n fa), (r0, rdC ov (va_rf ol) r1 r2 r3 r4 r5), (r1, chC cf cl zn 0), (r2, chC cf cl zn 1), (r3, chC cf cl zn 2), (r4, chC cf cl zn 3), (r5, tlC cI tf), ((fa j 0), fwC (fa j 1) (fa j 9)), ((fa j 1), snC (FX j 0) (FX j 1) (FX j 2) sv (fa j 2) (fa j 3) (fa j 8)), ((fa j 2), tmC tv), ((fa j 3), boC (fa j 4) (fa j 6) bv), ((fa j 4), mkC (fa j 5)), ((fa j 5), .inl (cJ, 4, .inr (.inl f))), ((fa j 6), mkC (fa j 7)), ((fa j 7), .inl (cJ, 4, .inr (.inl g))), ((fa j 8), cuC cv), ((fa j 10), mkC (fa j 11)), ((fa j 11), .inl (cJ, 4, .inr (.inl kf)))]) (pl := va_pl L (pf cJ kd pi bd af bo)) (R := (FA_16 ++ FB_17)) hp0)
      have hPc := hPq.left
      have hDc := hDq.left
      have hFc := va_freeR hDq hS hA
      refine va_calli (va_runV (As := [.int a2]) (rest := []) ⟨hx, hb, hml, hown, ha⟩ (s_changeWin l D cI cJ cZ cO _ (fa j 9) (fa j 10) (FX j 0) (FX j 3) rv a2) (cwV 1 ha (gaV kl_X10_52 km_X6_changeWindow ks_X6_changeWindow kz_X6 kd_X6_changeWindow) rfl rfl rfl (by decide +kernel) ⟨Nat.le_of_ble_eq_true rfl, Nat.le_of_ble_eq_true rfl⟩) ⟨pw_blind, va_recv hK hPc (ci := 6) (q0 := 0) rfl rfl, fun U hU hW => ⟨rfl, pw_start hU hW hPc hK hDc hN⟩⟩ rfl rfl hl.1 rfl (lv_room (Nat.le_of_ble_eq_true rfl)) dX10_window_31 ⟨Nat.le_of_ble_eq_true rfl, Nat.le_of_ble_eq_true rfl⟩) hS (fun q _ h => hFc q h) hFc (fun r_20 u t H1 locs ht hvm hw hB hz1 hk1 hS => ?_)
      obtain ⟨rv, hX0, hP1, hK1, hD1⟩ := hB
      have hE := bd_at rfl hE
      have hE := bd_at hX0 hE
      rw [ht] at hP1
      obtain ⟨hP, hD⟩ := va_joinR (w1 := [((fa j 9), rcC (FX j 0) rv a2 (fa j 10))]) hPq hDq hk1 hFc hP1 hD1
      have hP := hP.perm (pm_Qb (xr := [(b0, cbC r0 fl nw), (fl, flC cO n fa), (r0, rdC ov (va_rf ol) r1 r2 r3 r4 r5), (r1, chC cf cl zn 0), (r2, chC cf cl zn 1), (r3, chC cf cl zn 2), (r4, chC cf cl zn 3), (r5, tlC cI tf), ((fa j 0), fwC (fa j 1) (fa j 9)), ((fa j 1), snC (FX j 0) (FX j 1) (FX j 2) sv (fa j 2) (fa j 3) (fa j 8)), ((fa j 2), tmC tv), ((fa j 3), boC (fa j 4) (fa j 6) bv), ((fa j 4), mkC (fa j 5)), ((fa j 5), .inl (cJ, 4, .inr (.inl f))), ((fa j 6), mkC (fa j 7)), ((fa j 7), .inl (cJ, 4, .inr (.inl g))), ((fa j 8), cuC cv), ((fa j 10), mkC (fa j 11)), ((fa j 11), .inl (cJ, 4, .inr (.inl kf)))]) (w1 := [((fa j 9), rcC (FX j 0) rv a2 (fa j 10))]) (pl := va_pl L (pf cJ kd pi bd af bo)) (R := (FA_16 ++ FB_17)))
      have hD := hD.perm (pm_Qb (xr := [(b0, cbC r0 fl nw), (fl, flC cO n fa), (r0, rdC ov (va_rf ol) r1 r2 r3 r4 r5), (r1, chC cf cl zn 0), (r2, chC cf cl zn 1), (r3, chC cf cl zn 2), (r4, chC cf cl zn 3), (r5, tlC cI tf), ((fa j 0), fwC (fa j 1) (fa j 9)), ((fa j 1), snC (FX j 0) (FX j 1) (FX j 2) sv (fa j 2) (fa j 3) (fa j 8)), ((fa j 2), tmC tv), ((fa j 3), boC (fa j 4) (fa j 6) bv), ((fa j 4), mkC (fa j 5)), ((fa j 5), .inl (cJ, 4, .inr (.inl f))), ((fa j 6), mkC (fa j 7)), ((fa j 7), .inl (cJ, 4, .inr (.inl g))), ((fa j 8), cuC cv), ((fa j 10), mkC (fa j 11)), ((fa j 11), .inl (cJ, 4, .inr (.inl kf)))]) (w1 := [((fa j 9), rcC (FX j 0) rv a2 (fa j 10))]) (pl := va_pl L (pf cJ kd pi bd af bo)) (R := (FA_16 ++ FB_17)))
      clear hp0 hPq hDq hPc hDc hP1 hD1
      generalize H1 = H at hP hS ⊢
      have hP : va_P D vwCl (([(b0, cbC r0 fl nw), (fl, flC cO n fa), (r0, rdC ov (va_rf ol) r1 r2 r3 r4 r5), (r1, chC cf cl zn 0), (r2, chC cf cl zn 1), (r3, chC cf cl zn 2), (r4, chC cf cl zn 3), (r5, tlC cI tf), ((fa j 0), fwC (fa j 1) (fa j 9)), ((fa j 1), snC (FX j 0) (FX j 1) (FX j 2) sv (fa j 2) (fa j 3) (fa j 8)), ((fa j 2), tmC tv), ((fa j 3), boC (fa j 4) (fa j 6) bv), ((fa j 4), mkC (fa j 5)), ((fa j 5), .inl (cJ, 4, .inr (.inl f))), ((fa j 6), mkC (fa j 7)), ((fa j 7), .inl (cJ, 4, .inr (.inl g))), ((fa j 8), cuC cv), ((fa j 10), mkC (fa j 11)), ((fa j 11), .inl (cJ, 4, .inr (.inl kf))), ((fa j 9), rcC (FX j 0) rv a2 (fa j 10))] ++ va_pl L (pf cJ kd pi bd af bo)) ++ (FA_16 ++ FB_17)) H := hP
      have hD : va_D A (([(b0, cbC r0 fl nw), (fl, flC cO n fa), (r0, rdC ov (va_rf ol) r1 r2 r3 r4 r5), (r1, chC cf cl zn 0), (r2, chC cf cl zn 1), (r3, chC cf cl zn 2), (r4, chC cf cl zn 3), (r5, tlC cI tf), ((fa j 0), fwC (fa j 1) (fa j 9)), ((fa j 1), snC (FX j 0) (FX j 1) (FX j 2) sv (fa j 2) (fa j 3) (fa j 8)), ((fa j 2), tmC tv), ((fa j 3), boC (fa j 4) (fa j 6) bv), ((fa j 4), mkC (fa j 5)), ((fa j 5), .inl (cJ, 4, .inr (.inl f))), ((fa j 6), mkC (fa j 7)), ((fa j 7), .inl (cJ, 4, .inr (.inl g))), ((fa j 8), cuC cv), ((fa j 10), mkC (fa j 11)), ((fa j 11), .inl (cJ, 4, .inr (.inl kf))), ((fa j 9), rcC (FX j 0) rv a2 (fa j 10))] ++ va_pl L (pf cJ kd pi bd af bo)) ++ (FA_16 ++ FB_17)) := hD
      have hpo := pm_X (pl := va_pl L (pf cJ kd pi bd af bo)) (R := (FA_16 ++ FB_17)) (perm_idx (X := [(b0, cbC r0 fl nw), (fl, flC cO n fa), (r0, rdC ov (va_rf ol) r1 r2 r3 r4 r5), (r1, chC cf cl zn 0), (r2, chC cf cl zn 1), (r3, chC cf cl zn 2), (r4, chC cf cl zn 3), (r5, tlC cI tf), ((fa j 0), fwC (fa j 1) (fa j 9)), ((fa j 1), snC (FX j 0) (FX j 1) (FX j 2) sv (fa j 2) (fa j 3) (fa j 8)), ((fa j 2), tmC tv), ((fa j 3), boC (fa j 4) (fa j 6) bv), ((fa j 4), mkC (fa j 5)), ((fa j 5), .inl (cJ, 4, .inr (.inl f))), ((fa j 6), mkC (fa j 7)), ((fa j 7), .inl (cJ, 4, .inr (.inl g))), ((fa j 8), cuC cv), ((fa j 10), mkC (fa j 11)), ((fa j 11), .inl (cJ, 4, .inr (.inl kf))), ((fa j 9), rcC (FX j 0) rv a2 (fa j 10))]) (Y := [(b0, cbC r0 fl nw), (fl, flC cO n fa), (r0, rdC ov (va_rf ol) r1 r2 r3 r4 r5), (r1, chC cf cl zn 0), (r2, chC cf cl zn 1), (r3, chC cf cl zn 2), (r4, chC cf cl zn 3), (r5, tlC cI tf), ((fa j 0), fwC (fa j 1) (fa j 9)), ((fa j 1), snC (FX j 0) (FX j 1) (FX j 2) sv (fa j 2) (fa j 3) (fa j 8)), ((fa j 2), tmC tv), ((fa j 3), boC (fa j 4) (fa j 6) bv), ((fa j 4), mkC (fa j 5)), ((fa j 5), .inl (cJ, 4, .inr (.inl f))), ((fa j 6), mkC (fa j 7)), ((fa j 7), .inl (cJ, 4, .inr (.inl g))), ((fa j 8), cuC cv), ((fa j 9), rcC (FX j 0) rv a2 (fa j 10)), ((fa j 10), mkC (fa j 11)), ((fa j 11), .inl (cJ, 4, .inr (.inl kf)))]) (N := 20) [0, 1, 2, 3, 4, 5, 6, 7, 8, 9, 10, 11, 12, 13, 14, 15, 16, 19, 17, 18] rfl rfl (by decide))
      have hP := hP.perm hpo
      have hD := hD.perm hpo
      clear hpo
      have hP : va_P D vwCl (([(b0, cbC r0 fl nw), (fl, flC cO n fa), (r0, rdC ov (va_rf ol) r1 r2 r3 r4 r5), (r1, chC cf cl zn 0), (r2, chC cf cl zn 1), (r3, chC cf cl zn 2), (r4, chC cf cl zn 3), (r5, tlC cI tf), ((fa j 0), fwC (fa j 1) (fa j 9)), ((fa j 1), snC (FX j 0) (FX j 1) (FX j 2) sv (fa j 2) (fa j 3) (fa j 8)), ((fa j 2), tmC tv), ((fa j 3), boC (fa j 4) (fa j 6) bv), ((fa j 4), mkC (fa j 5)), ((fa j 5), .inl (cJ, 4, .inr (.inl f))), ((fa j 6), mkC (fa j 7)), ((fa j 7), .inl (cJ, 4, .inr (.inl g))), ((fa j 8), cuC cv), ((fa j 9), rcC (FX j 0) rv a2 (fa j 10)), ((fa j 10), mkC (fa j 11)), ((fa j 11), .inl (cJ, 4, .inr (.inl kf)))] ++ va_pl L (pf cJ kd pi bd af bo)) ++ (FA_16 ++ FB_17)) H := hP
      have hD : va_D A (([(b0, cbC r0 fl nw), (fl, flC cO n fa), (r0, rdC ov (va_rf ol) r1 r2 r3 r4 r5), (r1, chC cf cl zn 0), (r2, chC cf cl zn 1), (r3, chC cf cl zn 2), (r4, chC cf cl zn 3), (r5, tlC cI tf), ((fa j 0), fwC (fa j 1) (fa j 9)), ((fa j 1), snC (FX j 0) (FX j 1) (FX j 2) sv (fa j 2) (fa j 3) (fa j 8)), ((fa j 2), tmC tv), ((fa j 3), boC (fa j 4) (fa j 6) bv), ((fa j 4), mkC (fa j 5)), ((fa j 5), .inl (cJ, 4, .inr (.inl f))), ((fa j 6), mkC (fa j 7)), ((fa j 7), .inl (cJ, 4, .inr (.inl g))), ((fa j 8), cuC cv), ((fa j 9), rcC (FX j 0) rv a2 (fa j 10)), ((fa j 10), mkC (fa j 11)), ((fa j 11), .inl (cJ, 4, .inr (.inl kf)))] ++ va_pl L (pf cJ kd pi bd af bo)) ++ (FA_16 ++ FB_17)) := hD
      refine W.widen (k := 0) (n := 0) (Nat.le_of_ble_eq_true rfl) (Nat.le_of_ble_eq_true rfl) ?_
      have hr_20 := hw
      have hpo := pm_close (X := [(b0, cbC r0 fl nw), (fl, flC cO n fa), (r0, rdC ov (va_rf ol) r1 r2 r3 r4 r5), (r1, chC cf cl zn 0), (r2, chC cf cl zn 1), (r3, chC cf cl zn 2), (r4, chC cf cl zn 3), (r5, tlC cI tf)]) (c := [((fa j 0), fwC (fa j 1) (fa j 9)), ((fa j 1), snC (FX j 0) (FX j 1) (FX j 2) sv (fa j 2) (fa j 3) (fa j 8)), ((fa j 2), tmC tv), ((fa j 3), boC (fa j 4) (fa j 6) bv), ((fa j 4), mkC (fa j 5)), ((fa j 5), .inl (cJ, 4, .inr (.inl f))), ((fa j 6), mkC (fa j 7)), ((fa j 7), .inl (cJ, 4, .inr (.inl g))), ((fa j 8), cuC cv), ((fa j 9), rcC (FX j 0) rv a2 (fa j 10)), ((fa j 10), mkC (fa j 11)), ((fa j 11), .inl (cJ, 4, .inr (.inl kf)))]) (pl := va_pl L (pf cJ kd pi bd af bo)) (fls_upX3 (v := a2) (sv := sv) (tv := tv) (bv := bv) (cv := cv) (rv := rv) (f := f) (g := g) (kf := kf) hfu_19) (perm_idx (X := [(b0, cbC r0 fl nw), (fl, flC cO n fa), (r0, rdC ov (va_rf ol) r1 r2 r3 r4 r5), (r1, chC cf cl zn 0), (r2, chC cf cl zn 1), (r3, chC cf cl zn 2), (r4, chC cf cl zn 3), (r5, tlC cI tf), ((fa j 0), fwC (fa j 1) (fa j 9)), ((fa j 1), snC (FX j 0) (FX j 1) (FX j 2) sv (fa j 2) (fa j 3) (fa j 8)), ((fa j 2), tmC tv), ((fa j 3), boC (fa j 4) (fa j 6) bv), ((fa j 4), mkC (fa j 5)), ((fa j 5), .inl (cJ, 4, .inr (.inl f))), ((fa j 6), mkC (fa j 7)), ((fa j 7), .inl (cJ, 4, .inr (.inl g))), ((fa j 8), cuC cv), ((fa j 9), rcC (FX j 0) rv a2 (fa j 10)), ((fa j 10), mkC (fa j 11)), ((fa j 11), .inl (cJ, 4, .inr (.inl kf)))]) (Y := [(b0, cbC r0 fl nw), (fl, flC cO n fa), (r0, rdC ov (va_rf ol) r1 r2 r3 r4 r5), (r1, chC cf cl zn 0), (r2, chC cf cl zn 1), (r3, chC cf cl zn 2), (r4, chC cf cl zn 3), (r5, tlC cI tf), ((fa j 0), fwC (fa j 1) (fa j 9)), ((fa j 1), snC (FX j 0) (FX j 1) (FX j 2) sv (fa j 2) (fa j 3) (fa j 8)), ((fa j 2), tmC tv), ((fa j 3), boC (fa j 4) (fa j 6) bv), ((fa j 4), mkC (fa j 5)), ((fa j 5), .inl (cJ, 4, .inr (.inl f))), ((fa j 6), mkC (fa j 7)), ((fa j 7), .inl (cJ, 4, .inr (.inl g))), ((fa j 8), cuC cv), ((fa j 9), rcC (FX j 0) rv a2 (fa j 10)), ((fa j 10), mkC (fa j 11)), ((fa j 11), .inl (cJ, 4, .inr (.inl kf)))]) (N := 20) [0, 1, 2, 3, 4, 5, 6, 7, 8, 9, 10, 11, 12, 13, 14, 15, 16, 17, 18, 19] rfl rfl (by decide))
      have hP := hP.perm hpo
      have hD := hD.perm hpo
      clear hpo hfu_19
      have hP : va_P D vwCl (([(b0, cbC r0 fl nw), (fl, flC cO n fa), (r0, rdC ov (va_rf ol) r1 r2 r3 r4 r5), (r1, chC cf cl zn 0), (r2, chC cf cl zn 1), (r3, chC cf cl zn 2), (r4, chC cf cl zn 3), (r5, tlC cI tf)] ++ va_pl L (pf cJ kd pi bd af bo)) ++ fls cJ fa (va_up FX j (upd (FX j) 3 a2)) (va_up FV j (fpk sv tv bv cv rv)) (va_up FJ j (fpj f g kf)) n) H := hP
      have hD : va_D A (([(b0, cbC r0 fl nw), (fl, flC cO n fa), (r0, rdC ov (va_rf ol) r1 r2 r3 r4 r5), (r1, chC cf cl zn 0), (r2, chC cf cl zn 1), (r3, chC cf cl zn 2), (r4, chC cf cl zn 3), (r5, tlC cI tf)] ++ va_pl L (pf cJ kd pi bd af bo)) ++ fls cJ fa (va_up FX j (upd (FX j) 3 a2)) (va_up FV j (fpk sv tv bv cv rv)) (va_up FJ j (fpj f g kf)) n) := hD
      generalize hfv : va_up FV j (fpk sv tv bv cv rv) = FV at hP hD
      generalize hfj : va_up FJ j (fpj f g kf) = FJ at hP hD
      have hE := bs_at hfv hE
      have hE := bs_at hfj hE
      have hP9 : va_P D vwCl (([(b0, cbC r0 fl nw), (fl, flC cO n fa), (r0, rdC ov (va_rf ol) r1 r2 r3 r4 r5), (r1, chC cf cl zn 0), (r2, chC cf cl zn 1), (r3, chC cf cl zn 2), (r4, chC cf cl zn 3), (r5, tlC cI tf)] ++ va_pl L (pf cJ kd pi bd af bo)) ++ fls cJ fa (va_up FX j (upd (FX j) 3 a2)) FV FJ n) _ := hP
      have hD9 : va_D A (([(b0, cbC r0 fl nw), (fl, flC cO n fa), (r0, rdC ov (va_rf ol) r1 r2 r3 r4 r5), (r1, chC cf cl zn 0), (r2, chC cf cl zn 1), (r3, chC cf cl zn 2), (r4, chC cf cl zn 3), (r5, tlC cI tf)] ++ va_pl L (pf cJ kd pi bd af bo)) ++ fls cJ fa (va_up FX j (upd (FX j) 3 a2)) FV FJ n) := hD
      exact W.iret (v := r_20) hx hb hr (fun t ht hW => ⟨⟨r_20, (va_up FX j (upd (FX j) 3 a2)), rfl, Or.inr ⟨j, hj, rfl, by rw [← hr_14]; exact c_15, hr_20, rfl⟩, ⟨FV, FJ, ⟨(by rw [← hRES, hE]), (by rw [← hRES, hE])⟩, by rw [ht]; exact hP9, va_K.moved hW.alike hK, hD9⟩⟩, hS.F ht⟩) hS.2.2 dX10_window_34
    · have hE := hE.trans (if_pos c_15)
      refine lv_iconst (v := (-1)) hx hb dX10_window_19 (by decide) ?_
      have hP9 : va_P D vwCl (([(b0, cbC r0 fl nw), (fl, flC cO n fa), (r0, rdC ov (va_rf ol) r1 r2 r3 r4 r5), (r1, chC cf cl zn 0), (r2, chC cf cl zn 1), (r3, chC cf cl zn 2), (r4, chC cf cl zn 3), (r5, tlC cI tf)] ++ va_pl L (pf cJ kd pi bd af bo)) ++ fls cJ fa FX FV FJ n) _ := hP
      have hD9 : va_D A (([(b0, cbC r0 fl nw), (fl, flC cO n fa), (r0, rdC ov (va_rf ol) r1 r2 r3 r4 r5), (r1, chC cf cl zn 0), (r2, chC cf cl zn 1), (r3, chC cf cl zn 2), (r4, chC cf cl zn 3), (r5, tlC cI tf)] ++ va_pl L (pf cJ kd pi bd af bo)) ++ fls cJ fa FX FV FJ n) := hD
      exact W.iret (v := (-1)) hx hb hr (fun t ht hW => ⟨⟨(-1), FX, rfl, Or.inl ⟨rfl, rfl, Or.inr (hr_14.symm.trans c_15)⟩, ⟨FV, FJ, ⟨(by rw [← hRES, hE]), (by rw [← hRES, hE])⟩, by rw [ht]; exact hP9, va_K.moved hW.alike hK, hD9⟩⟩, hS.F ht⟩) hS.2.2 dX10_window_20

def xc_sender (n : Nat) (FX : Nat → Nat → Int32) (FV : FVt) (FJ : FJt) (a1 a2 : Int32) : FVt × FJt × Int32 := bd (isf a1 n) (fun r1 => if r1 = 0 then (FV, FJ, (-1 : Int32)) else bd (xc_stell (FX a1.toNatClampNeg 0) (FX a1.toNatClampNeg 1) (FX a1.toNatClampNeg 2) (FV a1.toNatClampNeg 0) (FV a1.toNatClampNeg 1) (FV a1.toNatClampNeg 2) (FV a1.toNatClampNeg 3) (FJ a1.toNatClampNeg 0) (FJ a1.toNatClampNeg 1) a2) (fun t1 => bd t1.1 (fun sv => bd t1.2.1 (fun tv => bd t1.2.2.1 (fun bv => bd t1.2.2.2.1 (fun cv => bd t1.2.2.2.2.1 (fun f => bd t1.2.2.2.2.2.1 (fun g => bd t1.2.2.2.2.2.2 (fun r2 => bd (va_up FV a1.toNatClampNeg (fpk sv tv bv cv (FV a1.toNatClampNeg 4))) (fun FV => bd (va_up FJ a1.toNatClampNeg (fpj f g (FJ a1.toNatClampNeg 2))) (fun FJ => (FV, FJ, r2))))))))))))
set_option maxHeartbeats 4000000 in
set_option maxRecDepth 100000 in
theorem s_sender (l : Launch) (D : va_G) (cI cJ cZ cO : ClassId) (sz : Nat) (b0 fl : Nat) (nw : Int32) (n : Nat) (fa : Nat → Nat → Nat) (FX : Nat → Nat → Int32) (FV : Nat → Nat → Nat → Int32) (FJ : Nat → Nat → Nat → Int64) (hn : n ≤ 4) (r0 r1 r2 r3 r4 r5 : Nat) (ov : Nat → Int32) (ol : Option Nat) (cf cl : Nat → Option Nat) (zn : Nat → Int32) (xl : Nat → List Nat) (tag : Nat → Nat) (L : List Nat) (kd : Nat → Bool) (pi : Nat → Nat → Int32) (bd : Nat → Nat) (af : Nat → Option Nat) (bo : Nat → Nat → Int64) (go : Option S4) (gq : List S3) (gw : List S4) (ga : List A6) (tf : Nat → Int32) (a1 a2 : Int32) : Met l yX10_sender (wa yX10_sender cX10_sender 3 (some .int)) ({ frames := 6, cells := 0, slots := 0, locals := 129 }) (va_Pc [.ref b0, .int a1, .int a2] (pw_s D cI cJ cZ cO sz (([(b0, cbC r0 fl nw), (fl, flC cO n fa), (r0, rdC ov (va_rf ol) r1 r2 r3 r4 r5), (r1, chC cf cl zn 0), (r2, chC cf cl zn 1), (r3, chC cf cl zn 2), (r4, chC cf cl zn 3), (r5, tlC cI tf)] ++ va_pl L (pf cJ kd pi bd af bo)) ++ fls cJ fa FX FV FJ n))) (va_Qi (fun (r : Int32) (_ : Unit) => ((True) ∧ r = (xc_sender n FX FV FJ a1 a2).2.2)) (fun (_ : Unit) (t : State) => ∃ (FV2 : Nat → Nat → Nat → Int32) (FJ2 : Nat → Nat → Nat → Int64), (FV2 = (xc_sender n FX FV FJ a1 a2).1 ∧ FJ2 = (xc_sender n FX FV FJ a1 a2).2.1) ∧ pw_t D cI cJ cZ cO (va_A (([(b0, cbC r0 fl nw), (fl, flC cO n fa), (r0, rdC ov (va_rf ol) r1 r2 r3 r4 r5), (r1, chC cf cl zn 0), (r2, chC cf cl zn 1), (r3, chC cf cl zn 2), (r4, chC cf cl zn 3), (r5, tlC cI tf)] ++ va_pl L (pf cJ kd pi bd af bo)) ++ fls cJ fa FX FV FJ n) sz) (([(b0, cbC r0 fl nw), (fl, flC cO n fa), (r0, rdC ov (va_rf ol) r1 r2 r3 r4 r5), (r1, chC cf cl zn 0), (r2, chC cf cl zn 1), (r3, chC cf cl zn 2), (r4, chC cf cl zn 3), (r5, tlC cI tf)] ++ va_pl L (pf cJ kd pi bd af bo)) ++ fls cJ fa FX FV2 FJ2 n) t) (va_A (([(b0, cbC r0 fl nw), (fl, flC cO n fa), (r0, rdC ov (va_rf ol) r1 r2 r3 r4 r5), (r1, chC cf cl zn 0), (r2, chC cf cl zn 1), (r3, chC cf cl zn 2), (r4, chC cf cl zn 3), (r5, tlC cI tf)] ++ va_pl L (pf cJ kd pi bd af bo)) ++ fls cJ fa FX FV FJ n) sz)) 0 0 (va_A (([(b0, cbC r0 fl nw), (fl, flC cO n fa), (r0, rdC ov (va_rf ol) r1 r2 r3 r4 r5), (r1, chC cf cl zn 0), (r2, chC cf cl zn 1), (r3, chC cf cl zn 2), (r4, chC cf cl zn 3), (r5, tlC cI tf)] ++ va_pl L (pf cJ kd pi bd af bo)) ++ fls cJ fa FX FV FJ n) sz) := by
  refine Met.ofW (cc := cX10_sender) (maxL := 3) (ret := (some .int)) (by decide) rfl ?_
  intro p e s m args below meth c s₁ B hml hv
  obtain ⟨rfl, hsz, hP, hK, hD0, hN⟩ := hv
  have hx := B.exec
  have hb := B.bytes
  have hr := B.returns
  have hts := atoms_spec (ws := (wa yX10_sender cX10_sender 3 (some .int))) B.pre
  have ha : ∀ w ∈ wsL_law, w.before _ s = true := fun w h => hts w (List.mem_cons_of_mem _ h)
  have hown : s.vm.findClass RX10 = some m.cls := findClass_of_methodNamed B.named
  have hlocks := B.notSynchronized
  subst hsz
  have hD := hD0.self (sz := s.heap.size)
  generalize hAe : va_A (([(b0, cbC r0 fl nw), (fl, flC cO n fa), (r0, rdC ov (va_rf ol) r1 r2 r3 r4 r5), (r1, chC cf cl zn 0), (r2, chC cf cl zn 1), (r3, chC cf cl zn 2), (r4, chC cf cl zn 3), (r5, tlC cI tf)] ++ va_pl L (pf cJ kd pi bd af bo)) ++ fls cJ fa FX FV FJ n) s.heap.size = A at hD ⊢
  have hA : ∀ q : Nat, s.heap.size ≤ q → A q := fun q h => by rw [← hAe]; exact Or.inr h
  have hS : va_S A s.heap s.heap [] := va_S.rf
  have hP : va_P D vwCl (([(b0, cbC r0 fl nw), (fl, flC cO n fa), (r0, rdC ov (va_rf ol) r1 r2 r3 r4 r5), (r1, chC cf cl zn 0), (r2, chC cf cl zn 1), (r3, chC cf cl zn 2), (r4, chC cf cl zn 3), (r5, tlC cI tf)] ++ va_pl L (pf cJ kd pi bd af bo)) ++ fls cJ fa FX FV FJ n) s.heap := hP
  have hl := lv_entry ([.ref b0, .int a1, .int a2]) (n := 3) (Nat.le_of_ble_eq_true rfl)
  rw [lg_entry_eq]
  generalize (lg_sl ([.ref b0, .int a1, .int a2]) ++ List.replicate (3 - (lg_sl ([.ref b0, .int a1, .int a2])).length) Slot.unset).toArray = ls at hl ⊢
  have hl : lv_has ls 3 [(0, .ref b0), (1, .int a1), (2, .int a2)] := hl
  obtain ⟨QP, hQP⟩ : ∃ y : State → Prop, y = (MQ below (va_Qi (fun (r : Int32) (_ : Unit) => ((True) ∧ r = (xc_sender n FX FV FJ a1 a2).2.2)) (fun (_ : Unit) (t : State) => ∃ (FV2 : Nat → Nat → Nat → Int32) (FJ2 : Nat → Nat → Nat → Int64), (FV2 = (xc_sender n FX FV FJ a1 a2).1 ∧ FJ2 = (xc_sender n FX FV FJ a1 a2).2.1) ∧ pw_t D cI cJ cZ cO A (([(b0, cbC r0 fl nw), (fl, flC cO n fa), (r0, rdC ov (va_rf ol) r1 r2 r3 r4 r5), (r1, chC cf cl zn 0), (r2, chC cf cl zn 1), (r3, chC cf cl zn 2), (r4, chC cf cl zn 3), (r5, tlC cI tf)] ++ va_pl L (pf cJ kd pi bd af bo)) ++ fls cJ fa FX FV2 FJ2 n) t) A) #[(.ref b0 : Value), (.int a1 : Value), (.int a2 : Value)] s 0 0 A) := ⟨_, rfl⟩
  obtain ⟨RES, hRES⟩ : ∃ y, y = (xc_sender n FX FV FJ a1 a2) := ⟨_, rfl⟩
  -- from the entry
  have hE := hRES
  unfold xc_sender at hE
  refine lv_aload_n hx hb dX10_sender_0 rfl (lv_at hl 0 rfl) ?_
  refine lv_iload_n hx hb dX10_sender_1 rfl (lv_at hl 1 rfl) ?_
  have hp0 := perm_idx (X := [(b0, cbC r0 fl nw), (fl, flC cO n fa), (r0, rdC ov (va_rf ol) r1 r2 r3 r4 r5), (r1, chC cf cl zn 0), (r2, chC cf cl zn 1), (r3, chC cf cl zn 2), (r4, chC cf cl zn 3), (r5, tlC cI tf)]) (Y := [(b0, cbC r0 fl nw), (fl, flC cO n fa)] ++ [(r0, rdC ov (va_rf ol) r1 r2 r3 r4 r5), (r1, chC cf cl zn 0), (r2, chC cf cl zn 1), (r3, chC cf cl zn 2), (r4, chC cf cl zn 3), (r5, tlC cI tf)]) (N := 8) [0, 1, 2, 3, 4, 5, 6, 7] rfl rfl (by decide)
  have hPq := hP.perm (pm_Q (cx := [(b0, cbC r0 fl nw), (fl, flC cO n fa)]) (xr := [(r0, rdC ov (va_rf ol) r1 r2 r3 r4 r5), (r1, chC cf cl zn 0), (r2, chC cf cl zn 1), (r3, chC cf cl zn 2), (r4, chC cf cl zn 3), (r5, tlC cI tf)]) (pl := va_pl L (pf cJ kd pi bd af bo)) (R := fls cJ fa FX FV FJ n) hp0)
  have hDq := hD.perm (pm_Q (cx := [(b0, cbC r0 fl nw), (fl, flC cO n fa)]) (xr := [(r0, rdC ov (va_rf ol) r1 r2 r3 r4 r5), (r1, chC cf cl zn 0), (r2, chC cf cl zn 1), (r3, chC cf cl zn 2), (r4, chC cf cl zn 3), (r5, tlC cI tf)]) (pl := va_pl L (pf cJ kd pi bd af bo)) (R := fls cJ fa FX FV FJ n) hp0)
  have hPc := hPq.left
  have hDc := hDq.left
  have hFc := va_freeR hDq hS hA
  refine va_calli (va_runV (As := [.int a1]) (rest := []) ⟨hx, hb, hml, hown, ha⟩ (c_isFlow l D cI cJ cZ cO _ b0 r0 fl nw n (fun i => some (fa i 0)) a1) (cwV 1 ha (gaV kl_X10_33 km_X10_isFlow ks_X10_isFlow kz_X10 kd_X10_isFlow) rfl rfl rfl (by decide +kernel) ⟨Nat.le_of_ble_eq_true rfl, Nat.le_of_ble_eq_true rfl⟩) ⟨pw_blind, va_recv hK hPc (ci := 10) (q0 := 0) rfl rfl, fun U hU hW => ⟨rfl, pw_start hU hW hPc hK hDc hN⟩⟩ rfl rfl hl.1 rfl (lv_room (Nat.le_of_ble_eq_true rfl)) dX10_sender_2 ⟨Nat.le_of_ble_eq_true rfl, Nat.le_of_ble_eq_true rfl⟩) hS (fun q _ h => hFc q h) hFc (fun r_15 u t H1 locs ht hvm hw hB hz1 hk1 hS => ?_)
  obtain ⟨hP1, hK1, hD1⟩ := hB
  rw [ht] at hP1
  obtain ⟨hP, hD⟩ := va_joinR (w1 := [(b0, cbC r0 fl nw), (fl, flC cO n fa)]) hPq hDq hk1 hFc hP1 hD1
  have hP := hP.perm (pm_Qb (xr := [(r0, rdC ov (va_rf ol) r1 r2 r3 r4 r5), (r1, chC cf cl zn 0), (r2, chC cf cl zn 1), (r3, chC cf cl zn 2), (r4, chC cf cl zn 3), (r5, tlC cI tf)]) (w1 := [(b0, cbC r0 fl nw), (fl, flC cO n fa)]) (pl := va_pl L (pf cJ kd pi bd af bo)) (R := fls cJ fa FX FV FJ n))
  have hD := hD.perm (pm_Qb (xr := [(r0, rdC ov (va_rf ol) r1 r2 r3 r4 r5), (r1, chC cf cl zn 0), (r2, chC cf cl zn 1), (r3, chC cf cl zn 2), (r4, chC cf cl zn 3), (r5, tlC cI tf)]) (w1 := [(b0, cbC r0 fl nw), (fl, flC cO n fa)]) (pl := va_pl L (pf cJ kd pi bd af bo)) (R := fls cJ fa FX FV FJ n))
  clear hp0 hPq hDq hPc hDc hP1 hD1
  generalize H1 = H at hP hS ⊢
  have hP : va_P D vwCl (([(r0, rdC ov (va_rf ol) r1 r2 r3 r4 r5), (r1, chC cf cl zn 0), (r2, chC cf cl zn 1), (r3, chC cf cl zn 2), (r4, chC cf cl zn 3), (r5, tlC cI tf), (b0, cbC r0 fl nw), (fl, flC cO n fa)] ++ va_pl L (pf cJ kd pi bd af bo)) ++ fls cJ fa FX FV FJ n) H := hP
  have hD : va_D A (([(r0, rdC ov (va_rf ol) r1 r2 r3 r4 r5), (r1, chC cf cl zn 0), (r2, chC cf cl zn 1), (r3, chC cf cl zn 2), (r4, chC cf cl zn 3), (r5, tlC cI tf), (b0, cbC r0 fl nw), (fl, flC cO n fa)] ++ va_pl L (pf cJ kd pi bd af bo)) ++ fls cJ fa FX FV FJ n) := hD
  have hpo := pm_X (pl := va_pl L (pf cJ kd pi bd af bo)) (R := fls cJ fa FX FV FJ n) (perm_idx (X := [(r0, rdC ov (va_rf ol) r1 r2 r3 r4 r5), (r1, chC cf cl zn 0), (r2, chC cf cl zn 1), (r3, chC cf cl zn 2), (r4, chC cf cl zn 3), (r5, tlC cI tf), (b0, cbC r0 fl nw), (fl, flC cO n fa)]) (Y := [(b0, cbC r0 fl nw), (fl, flC cO n fa), (r0, rdC ov (va_rf ol) r1 r2 r3 r4 r5), (r1, chC cf cl zn 0), (r2, chC cf cl zn 1), (r3, chC cf cl zn 2), (r4, chC cf cl zn 3), (r5, tlC cI tf)]) (N := 8) [6, 7, 0, 1, 2, 3, 4, 5] rfl rfl (by decide))
  have hP := hP.perm hpo
  have hD := hD.perm hpo
  clear hpo
  have hP : va_P D vwCl (([(b0, cbC r0 fl nw), (fl, flC cO n fa), (r0, rdC ov (va_rf ol) r1 r2 r3 r4 r5), (r1, chC cf cl zn 0), (r2, chC cf cl zn 1), (r3, chC cf cl zn 2), (r4, chC cf cl zn 3), (r5, tlC cI tf)] ++ va_pl L (pf cJ kd pi bd af bo)) ++ fls cJ fa FX FV FJ n) H := hP
  have hD : va_D A (([(b0, cbC r0 fl nw), (fl, flC cO n fa), (r0, rdC ov (va_rf ol) r1 r2 r3 r4 r5), (r1, chC cf cl zn 0), (r2, chC cf cl zn 1), (r3, chC cf cl zn 2), (r4, chC cf cl zn 3), (r5, tlC cI tf)] ++ va_pl L (pf cJ kd pi bd af bo)) ++ fls cJ fa FX FV FJ n) := hD
  refine W.widen (k := 0) (n := 0) (Nat.le_of_ble_eq_true rfl) (Nat.le_of_ble_eq_true rfl) ?_
  have hr_15 := hw
  have hE := bd_at hr_15 hE
  refine lv_if_eq (tgt := 24) hx hb dX10_sender_5 (by decide) (fun c_16 => ?_) (fun c_16 => ?_)
  · have hE := hE.trans (if_pos c_16)
    refine lv_iconst (v := (-1)) hx hb dX10_sender_24 (by decide) ?_
    have hP9 : va_P D vwCl (([(b0, cbC r0 fl nw), (fl, flC cO n fa), (r0, rdC ov (va_rf ol) r1 r2 r3 r4 r5), (r1, chC cf cl zn 0), (r2, chC cf cl zn 1), (r3, chC cf cl zn 2), (r4, chC cf cl zn 3), (r5, tlC cI tf)] ++ va_pl L (pf cJ kd pi bd af bo)) ++ fls cJ fa FX FV FJ n) _ := hP
    have hD9 : va_D A (([(b0, cbC r0 fl nw), (fl, flC cO n fa), (r0, rdC ov (va_rf ol) r1 r2 r3 r4 r5), (r1, chC cf cl zn 0), (r2, chC cf cl zn 1), (r3, chC cf cl zn 2), (r4, chC cf cl zn 3), (r5, tlC cI tf)] ++ va_pl L (pf cJ kd pi bd af bo)) ++ fls cJ fa FX FV FJ n) := hD
    exact W.iret (v := (-1)) hx hb hr (fun t ht hW => ⟨⟨(-1), (), rfl, ⟨trivial, (by rw [← hRES, hE])⟩, ⟨FV, FJ, ⟨(by rw [← hRES, hE]), (by rw [← hRES, hE])⟩, by rw [ht]; exact hP9, va_K.moved hW.alike hK, hD9⟩⟩, hS.F ht⟩) hS.2.2 dX10_sender_25
  · have hE := hE.trans (if_neg c_16)
    obtain ⟨j, hj, hxj⟩ := isf_j hn (by rw [← hr_15]; exact c_16)
    subst hxj
    rw [nI_clamp (show j < 2 ^ 31 by omega)] at hE
    refine lv_aload_n hx hb dX10_sender_8 rfl (lv_at hl 0 rfl) ?_
    refine va_get (D := D) (ci := 10) (v := .ref fl) (C := RX10) (T := TX10) (N := 3) hx hb ha inlX10 hown hK hP 0 rfl rfl 1 (by decide) (ha _ kf_X10_18) (fun _ h9 => h9) rfl dX10_sender_9 ?_
    refine lv_iload_n hx hb dX10_sender_12 rfl (lv_at hl 1 rfl) ?_
    refine va_aldq hx hb hK hP 1 3 rfl rfl (vp_in_nI hj (by omega)) dX10_sender_13 ?_
    rw [nI_clamp (show j < 2 ^ 31 by omega)]
    refine W.eq (g2 := F0 m 14 ls [.ref (fa j 0)]) rfl ?_
    obtain ⟨FA_17, FB_18, hfe_19, hfu_20⟩ := fls_at (cJ := cJ) (fa := fa) (FX := FX) (FV := FV) (FJ := FJ) hj
    have hpo := pm_open (X := [(b0, cbC r0 fl nw), (fl, flC cO n fa), (r0, rdC ov (va_rf ol) r1 r2 r3 r4 r5), (r1, chC cf cl zn 0), (r2, chC cf cl zn 1), (r3, chC cf cl zn 2), (r4, chC cf cl zn 3), (r5, tlC cI tf)]) (c := fcs cJ fa FX FV FJ j) (pl := va_pl L (pf cJ kd pi bd af bo)) hfe_19
    have hP := hP.perm hpo
    have hD := hD.perm hpo
    clear hpo
    have hP : va_P D vwCl (([(b0, cbC r0 fl nw), (fl, flC cO n fa), (r0, rdC ov (va_rf ol) r1 r2 r3 r4 r5), (r1, chC cf cl zn 0), (r2, chC cf cl zn 1), (r3, chC cf cl zn 2), (r4, chC cf cl zn 3), (r5, tlC cI tf), ((fa j 0), fwC (fa j 1) (fa j 9)), ((fa j 1), snC (FX j 0) (FX j 1) (FX j 2) (FV j 0) (fa j 2) (fa j 3) (fa j 8)), ((fa j 2), tmC (FV j 1)), ((fa j 3), boC (fa j 4) (fa j 6) (FV j 2)), ((fa j 4), mkC (fa j 5)), ((fa j 5), .inl (cJ, 4, .inr (.inl (FJ j 0)))), ((fa j 6), mkC (fa j 7)), ((fa j 7), .inl (cJ, 4, .inr (.inl (FJ j 1)))), ((fa j 8), cuC (FV j 3)), ((fa j 9), rcC (FX j 0) (FV j 4) (FX j 3) (fa j 10)), ((fa j 10), mkC (fa j 11)), ((fa j 11), .inl (cJ, 4, .inr (.inl (FJ j 2))))] ++ va_pl L (pf cJ kd pi bd af bo)) ++ (FA_17 ++ FB_18)) H := hP
    have hD : va_D A (([(b0, cbC r0 fl nw), (fl, flC cO n fa), (r0, rdC ov (va_rf ol) r1 r2 r3 r4 r5), (r1, chC cf cl zn 0), (r2, chC cf cl zn 1), (r3, chC cf cl zn 2), (r4, chC cf cl zn 3), (r5, tlC cI tf), ((fa j 0), fwC (fa j 1) (fa j 9)), ((fa j 1), snC (FX j 0) (FX j 1) (FX j 2) (FV j 0) (fa j 2) (fa j 3) (fa j 8)), ((fa j 2), tmC (FV j 1)), ((fa j 3), boC (fa j 4) (fa j 6) (FV j 2)), ((fa j 4), mkC (fa j 5)), ((fa j 5), .inl (cJ, 4, .inr (.inl (FJ j 0)))), ((fa j 6), mkC (fa j 7)), ((fa j 7), .inl (cJ, 4, .inr (.inl (FJ j 1)))), ((fa j 8), cuC (FV j 3)), ((fa j 9), rcC (FX j 0) (FV j 4) (FX j 3) (fa j 10)), ((fa j 10), mkC (fa j 11)), ((fa j 11), .inl (cJ, 4, .inr (.inl (FJ j 2))))] ++ va_pl L (pf cJ kd pi bd af bo)) ++ (FA_17 ++ FB_18)) := hD
    generalize hv0 : FV j 0 = sv at hP hD hE
    generalize hv1 : FV j 1 = tv at hP hD hE
    generalize hv2 : FV j 2 = bv at hP hD hE
    generalize hv3 : FV j 3 = cv at hP hD hE
    generalize hv4 : FV j 4 = rv at hP hD hE
    generalize hj0 : FJ j 0 = f at hP hD hE
    generalize hj1 : FJ j 1 = g at hP hD hE
    generalize hj2 : FJ j 2 = kf at hP hD hE
    refine va_getN (D := D) (ci := 3) (v := .ref (fa j 1)) (C := RX3) (T := TX3) (N := 2) hx hb ha inlX3 hown hK hP 8 rfl rfl 0 (by decide) (va_Nw.use rfl (hN.f RX10 38 "CongestionBench$Flow" "sender" "LCongestionBench$Sender;" "CongestionBench" (by decide +kernel))) (fun _ h9 => h9) rfl dX10_sender_14 ?_
    refine lv_iload_n hx hb dX10_sender_17 rfl (lv_at hl 2 rfl) ?_
    have hp0 := perm_idx (X := [(b0, cbC r0 fl nw), (fl, flC cO n fa), (r0, rdC ov (va_rf ol) r1 r2 r3 r4 r5), (r1, chC cf cl zn 0), (r2, chC cf cl zn 1), (r3, chC cf cl zn 2), (r4, chC cf cl zn 3), (r5, tlC cI tf), ((fa j 0), fwC (fa j 1) (fa j 9)), ((fa j 1), snC (FX j 0) (FX j 1) (FX j 2) sv (fa j 2) (fa j 3) (fa j 8)), ((fa j 2), tmC tv), ((fa j 3), boC (fa j 4) (fa j 6) bv), ((fa j 4), mkC (fa j 5)), ((fa j 5), .inl (cJ, 4, .inr (.inl f))), ((fa j 6), mkC (fa j 7)), ((fa j 7), .inl (cJ, 4, .inr (.inl g))), ((fa j 8), cuC cv), ((fa j 9), rcC (FX j 0) rv (FX j 3) (fa j 10)), ((fa j 10), mkC (fa j 11)), ((fa j 11), .inl (cJ, 4, .inr (.inl kf)))]) (Y := [((fa j 1), snC (FX j 0) (FX j 1) (FX j 2) sv (fa j 2) (fa j 3) (fa j 8)), ((fa j 2), tmC tv), ((fa j 3), boC (fa j 4) (fa j 6) bv), ((fa j 4), mkC (fa j 5)), ((fa j 5), .inl (cJ, 4, .inr (.inl f))), ((fa j 6), mkC (fa j 7)), ((fa j 7), .inl (cJ, 4, .inr (.inl g))), ((fa j 8), cuC cv)] ++ [(b0, cbC r0 fl nw), (fl, flC cO n fa), (r0, rdC ov (va_rf ol) r1 r2 r3 r4 r5), (r1, chC cf cl zn 0), (r2, chC cf cl zn 1), (r3, chC cf cl zn 2), (r4, chC cf cl zn 3), (r5, tlC cI tf), ((fa j 0), fwC (fa j 1) (fa j 9)), ((fa j 9), rcC (FX j 0) rv (FX j 3) (fa j 10)), ((fa j 10), mkC (fa j 11)), ((fa j 11), .inl (cJ, 4, .inr (.inl kf)))]) (N := 20) [9, 10, 11, 12, 13, 14, 15, 16, 0, 1, 2, 3, 4, 5, 6, 7, 8, 17, 18, 19] rfl rfl (by decide)
    have hPq := hP.perm (pm_Q (cx := [((fa j 1), snC (FX j 0) (FX j 1) (FX j 2) sv (fa j 2) (fa j 3) (fa j 8)), ((fa j 2), tmC tv), ((fa j 3), boC (fa j 4) (fa j 6) bv), ((fa j 4), mkC (fa j 5)), ((fa j 5), .inl (cJ, 4, .inr (.inl f))), ((fa j 6), mkC (fa j 7)), ((fa j 7), .inl (cJ, 4, .inr (.inl g))), ((fa j 8), cuC cv)]) (xr := [(b0, cbC r0 fl nw), (fl, flC cO n fa), (r0, rdC ov (va_rf ol) r1 r2 r3 r4 r5), (r1, chC cf cl zn 0), (r2, chC cf cl zn 1), (r3, chC cf cl zn 2), (r4, chC cf cl zn 3), (r5, tlC cI tf), ((fa j 0), fwC (fa j 1) (fa j 9)), ((fa j 9), rcC (FX j 0) rv (FX j 3) (fa j 10)), ((fa j 10), mkC (fa j 11)), ((fa j 11), .inl (cJ, 4, .inr (.inl kf)))]) (pl := va_pl L (pf cJ kd pi bd af bo)) (R := (FA_17 ++ FB_18)) hp0)
    have hDq := hD.perm (pm_Q (cx := [((fa j 1), snC (FX j 0) (FX j 1) (FX j 2) sv (fa j 2) (fa j 3) (fa j 8)), ((fa j 2), tmC tv), ((fa j 3), boC (fa j 4) (fa j 6) bv), ((fa j 4), mkC (fa j 5)), ((fa j 5), .inl (cJ, 4, .inr (.inl f))), ((fa j 6), mkC (fa j 7)), ((fa j 7), .inl (cJ, 4, .inr (.inl g))), ((fa j 8), cuC cv)]) (xr := [(b0, cbC r0 fl nw), (fl, flC cO n fa), (r0, rdC ov (va_rf ol) r1 r2 r3 r4 r5), (r1, chC cf cl zn 0), (r2, chC cf cl zn 1), (r3, chC cf cl zn 2), (r4, chC cf cl zn 3), (r5, tlC cI tf), ((fa j 0), fwC (fa j 1) (fa j 9)), ((fa j 9), rcC (FX j 0) rv (FX j 3) (fa j 10)), ((fa j 10), mkC (fa j 11)), ((fa j 11), .inl (cJ, 4, .inr (.inl kf)))]) (pl := va_pl L (pf cJ kd pi bd af bo)) (R := (FA_17 ++ FB_18)) hp0)
    have hPc := hPq.left
    have hDc := hDq.left
    have hFc := va_freeR hDq hS hA
    refine va_calli (va_runV (As := [.int a2]) (rest := []) ⟨hx, hb, hml, hown, ha⟩ (s_stell l D cI cJ cZ cO _ (fa j 1) (fa j 2) (fa j 3) (fa j 4) (fa j 5) (fa j 6) (fa j 7) (fa j 8) (FX j 0) (FX j 1) (FX j 2) sv tv bv cv f g a2) (cwV 1 ha (gaV kl_X10_91 km_X8_tell ks_X8_tell kz_X8 kd_X8_tell) rfl rfl rfl (by decide +kernel) ⟨Nat.le_of_ble_eq_true rfl, Nat.le_of_ble_eq_true rfl⟩) ⟨pw_blind, va_recv hK hPc (ci := 8) (q0 := 0) rfl rfl, fun U hU hW => ⟨rfl, pw_start hU hW hPc hK hDc hN⟩⟩ rfl rfl hl.1 rfl (lv_room (Nat.le_of_ble_eq_true rfl)) dX10_sender_18 ⟨Nat.le_of_ble_eq_true rfl, Nat.le_of_ble_eq_true rfl⟩) hS (fun q _ h => hFc q h) hFc (fun r_21 u t H1 locs ht hvm hw hB hz1 hk1 hS => ?_)
    obtain ⟨sv, tv, bv, cv, f, g, ⟨hX0, hX1, hX2, hX3, hX4, hX5⟩, hP1, hK1, hD1⟩ := hB
    have hE := bd_at rfl hE
    have hE := bd_at hX0 hE
    have hE := bd_at hX1 hE
    have hE := bd_at hX2 hE
    have hE := bd_at hX3 hE
    have hE := bd_at hX4 hE
    have hE := bd_at hX5 hE
    have hE := bd_at hw.2 hE
    rw [ht] at hP1
    obtain ⟨hP, hD⟩ := va_joinR (w1 := [((fa j 1), snC (FX j 0) (FX j 1) (FX j 2) sv (fa j 2) (fa j 3) (fa j 8)), ((fa j 2), tmC tv), ((fa j 3), boC (fa j 4) (fa j 6) bv), ((fa j 4), mkC (fa j 5)), ((fa j 5), .inl (cJ, 4, .inr (.inl f))), ((fa j 6), mkC (fa j 7)), ((fa j 7), .inl (cJ, 4, .inr (.inl g))), ((fa j 8), cuC cv)]) hPq hDq hk1 hFc hP1 hD1
    have hP := hP.perm (pm_Qb (xr := [(b0, cbC r0 fl nw), (fl, flC cO n fa), (r0, rdC ov (va_rf ol) r1 r2 r3 r4 r5), (r1, chC cf cl zn 0), (r2, chC cf cl zn 1), (r3, chC cf cl zn 2), (r4, chC cf cl zn 3), (r5, tlC cI tf), ((fa j 0), fwC (fa j 1) (fa j 9)), ((fa j 9), rcC (FX j 0) rv (FX j 3) (fa j 10)), ((fa j 10), mkC (fa j 11)), ((fa j 11), .inl (cJ, 4, .inr (.inl kf)))]) (w1 := [((fa j 1), snC (FX j 0) (FX j 1) (FX j 2) sv (fa j 2) (fa j 3) (fa j 8)), ((fa j 2), tmC tv), ((fa j 3), boC (fa j 4) (fa j 6) bv), ((fa j 4), mkC (fa j 5)), ((fa j 5), .inl (cJ, 4, .inr (.inl f))), ((fa j 6), mkC (fa j 7)), ((fa j 7), .inl (cJ, 4, .inr (.inl g))), ((fa j 8), cuC cv)]) (pl := va_pl L (pf cJ kd pi bd af bo)) (R := (FA_17 ++ FB_18)))
    have hD := hD.perm (pm_Qb (xr := [(b0, cbC r0 fl nw), (fl, flC cO n fa), (r0, rdC ov (va_rf ol) r1 r2 r3 r4 r5), (r1, chC cf cl zn 0), (r2, chC cf cl zn 1), (r3, chC cf cl zn 2), (r4, chC cf cl zn 3), (r5, tlC cI tf), ((fa j 0), fwC (fa j 1) (fa j 9)), ((fa j 9), rcC (FX j 0) rv (FX j 3) (fa j 10)), ((fa j 10), mkC (fa j 11)), ((fa j 11), .inl (cJ, 4, .inr (.inl kf)))]) (w1 := [((fa j 1), snC (FX j 0) (FX j 1) (FX j 2) sv (fa j 2) (fa j 3) (fa j 8)), ((fa j 2), tmC tv), ((fa j 3), boC (fa j 4) (fa j 6) bv), ((fa j 4), mkC (fa j 5)), ((fa j 5), .inl (cJ, 4, .inr (.inl f))), ((fa j 6), mkC (fa j 7)), ((fa j 7), .inl (cJ, 4, .inr (.inl g))), ((fa j 8), cuC cv)]) (pl := va_pl L (pf cJ kd pi bd af bo)) (R := (FA_17 ++ FB_18)))
    clear hp0 hPq hDq hPc hDc hP1 hD1
    generalize H1 = H at hP hS ⊢
    have hP : va_P D vwCl (([(b0, cbC r0 fl nw), (fl, flC cO n fa), (r0, rdC ov (va_rf ol) r1 r2 r3 r4 r5), (r1, chC cf cl zn 0), (r2, chC cf cl zn 1), (r3, chC cf cl zn 2), (r4, chC cf cl zn 3), (r5, tlC cI tf), ((fa j 0), fwC (fa j 1) (fa j 9)), ((fa j 9), rcC (FX j 0) rv (FX j 3) (fa j 10)), ((fa j 10), mkC (fa j 11)), ((fa j 11), .inl (cJ, 4, .inr (.inl kf))), ((fa j 1), snC (FX j 0) (FX j 1) (FX j 2) sv (fa j 2) (fa j 3) (fa j 8)), ((fa j 2), tmC tv), ((fa j 3), boC (fa j 4) (fa j 6) bv), ((fa j 4), mkC (fa j 5)), ((fa j 5), .inl (cJ, 4, .inr (.inl f))), ((fa j 6), mkC (fa j 7)), ((fa j 7), .inl (cJ, 4, .inr (.inl g))), ((fa j 8), cuC cv)] ++ va_pl L (pf cJ kd pi bd af bo)) ++ (FA_17 ++ FB_18)) H := hP
    have hD : va_D A (([(b0, cbC r0 fl nw), (fl, flC cO n fa), (r0, rdC ov (va_rf ol) r1 r2 r3 r4 r5), (r1, chC cf cl zn 0), (r2, chC cf cl zn 1), (r3, chC cf cl zn 2), (r4, chC cf cl zn 3), (r5, tlC cI tf), ((fa j 0), fwC (fa j 1) (fa j 9)), ((fa j 9), rcC (FX j 0) rv (FX j 3) (fa j 10)), ((fa j 10), mkC (fa j 11)), ((fa j 11), .inl (cJ, 4, .inr (.inl kf))), ((fa j 1), snC (FX j 0) (FX j 1) (FX j 2) sv (fa j 2) (fa j 3) (fa j 8)), ((fa j 2), tmC tv), ((fa j 3), boC (fa j 4) (fa j 6) bv), ((fa j 4), mkC (fa j 5)), ((fa j 5), .inl (cJ, 4, .inr (.inl f))), ((fa j 6), mkC (fa j 7)), ((fa j 7), .inl (cJ, 4, .inr (.inl g))), ((fa j 8), cuC cv)] ++ va_pl L (pf cJ kd pi bd af bo)) ++ (FA_17 ++ FB_18)) := hD
    have hpo := pm_X (pl := va_pl L (pf cJ kd pi bd af bo)) (R := (FA_17 ++ FB_18)) (perm_idx (X := [(b0, cbC r0 fl nw), (fl, flC cO n fa), (r0, rdC ov (va_rf ol) r1 r2 r3 r4 r5), (r1, chC cf cl zn 0), (r2, chC cf cl zn 1), (r3, chC cf cl zn 2), (r4, chC cf cl zn 3), (r5, tlC cI tf), ((fa j 0), fwC (fa j 1) (fa j 9)), ((fa j 9), rcC (FX j 0) rv (FX j 3) (fa j 10)), ((fa j 10), mkC (fa j 11)), ((fa j 11), .inl (cJ, 4, .inr (.inl kf))), ((fa j 1), snC (FX j 0) (FX j 1) (FX j 2) sv (fa j 2) (fa j 3) (fa j 8)), ((fa j 2), tmC tv), ((fa j 3), boC (fa j 4) (fa j 6) bv), ((fa j 4), mkC (fa j 5)), ((fa j 5), .inl (cJ, 4, .inr (.inl f))), ((fa j 6), mkC (fa j 7)), ((fa j 7), .inl (cJ, 4, .inr (.inl g))), ((fa j 8), cuC cv)]) (Y := [(b0, cbC r0 fl nw), (fl, flC cO n fa), (r0, rdC ov (va_rf ol) r1 r2 r3 r4 r5), (r1, chC cf cl zn 0), (r2, chC cf cl zn 1), (r3, chC cf cl zn 2), (r4, chC cf cl zn 3), (r5, tlC cI tf), ((fa j 0), fwC (fa j 1) (fa j 9)), ((fa j 1), snC (FX j 0) (FX j 1) (FX j 2) sv (fa j 2) (fa j 3) (fa j 8)), ((fa j 2), tmC tv), ((fa j 3), boC (fa j 4) (fa j 6) bv), ((fa j 4), mkC (fa j 5)), ((fa j 5), .inl (cJ, 4, .inr (.inl f))), ((fa j 6), mkC (fa j 7)), ((fa j 7), .inl (cJ, 4, .inr (.inl g))), ((fa j 8), cuC cv), ((fa j 9), rcC (FX j 0) rv (FX j 3) (fa j 10)), ((fa j 10), mkC (fa j 11)), ((fa j 11), .inl (cJ, 4, .inr (.inl kf)))]) (N := 20) [0, 1, 2, 3, 4, 5, 6, 7, 8, 12, 13, 14, 15, 16, 17, 18, 19, 9, 10, 11] rfl rfl (by decide))
    have hP := hP.perm hpo
    have hD := hD.perm hpo
    clear hpo
    have hP : va_P D vwCl (([(b0, cbC r0 fl nw), (fl, flC cO n fa), (r0, rdC ov (va_rf ol) r1 r2 r3 r4 r5), (r1, chC cf cl zn 0), (r2, chC cf cl zn 1), (r3, chC cf cl zn 2), (r4, chC cf cl zn 3), (r5, tlC cI tf), ((fa j 0), fwC (fa j 1) (fa j 9)), ((fa j 1), snC (FX j 0) (FX j 1) (FX j 2) sv (fa j 2) (fa j 3) (fa j 8)), ((fa j 2), tmC tv), ((fa j 3), boC (fa j 4) (fa j 6) bv), ((fa j 4), mkC (fa j 5)), ((fa j 5), .inl (cJ, 4, .inr (.inl f))), ((fa j 6), mkC (fa j 7)), ((fa j 7), .inl (cJ, 4, .inr (.inl g))), ((fa j 8), cuC cv), ((fa j 9), rcC (FX j 0) rv (FX j 3) (fa j 10)), ((fa j 10), mkC (fa j 11)), ((fa j 11), .inl (cJ, 4, .inr (.inl kf)))] ++ va_pl L (pf cJ kd pi bd af bo)) ++ (FA_17 ++ FB_18)) H := hP
    have hD : va_D A (([(b0, cbC r0 fl nw), (fl, flC cO n fa), (r0, rdC ov (va_rf ol) r1 r2 r3 r4 r5), (r1, chC cf cl zn 0), (r2, chC cf cl zn 1), (r3, chC cf cl zn 2), (r4, chC cf cl zn 3), (r5, tlC cI tf), ((fa j 0), fwC (fa j 1) (fa j 9)), ((fa j 1), snC (FX j 0) (FX j 1) (FX j 2) sv (fa j 2) (fa j 3) (fa j 8)), ((fa j 2), tmC tv), ((fa j 3), boC (fa j 4) (fa j 6) bv), ((fa j 4), mkC (fa j 5)), ((fa j 5), .inl (cJ, 4, .inr (.inl f))), ((fa j 6), mkC (fa j 7)), ((fa j 7), .inl (cJ, 4, .inr (.inl g))), ((fa j 8), cuC cv), ((fa j 9), rcC (FX j 0) rv (FX j 3) (fa j 10)), ((fa j 10), mkC (fa j 11)), ((fa j 11), .inl (cJ, 4, .inr (.inl kf)))] ++ va_pl L (pf cJ kd pi bd af bo)) ++ (FA_17 ++ FB_18)) := hD
    refine W.widen (k := 0) (n := 0) (Nat.le_of_ble_eq_true rfl) (Nat.le_of_ble_eq_true rfl) ?_
    have hr_21 := hw.1
    refine lv_goto (tgt := 25) hx hb dX10_sender_21 (by decide) ?_
    have hpo := pm_close (X := [(b0, cbC r0 fl nw), (fl, flC cO n fa), (r0, rdC ov (va_rf ol) r1 r2 r3 r4 r5), (r1, chC cf cl zn 0), (r2, chC cf cl zn 1), (r3, chC cf cl zn 2), (r4, chC cf cl zn 3), (r5, tlC cI tf)]) (c := [((fa j 0), fwC (fa j 1) (fa j 9)), ((fa j 1), snC (FX j 0) (FX j 1) (FX j 2) sv (fa j 2) (fa j 3) (fa j 8)), ((fa j 2), tmC tv), ((fa j 3), boC (fa j 4) (fa j 6) bv), ((fa j 4), mkC (fa j 5)), ((fa j 5), .inl (cJ, 4, .inr (.inl f))), ((fa j 6), mkC (fa j 7)), ((fa j 7), .inl (cJ, 4, .inr (.inl g))), ((fa j 8), cuC cv), ((fa j 9), rcC (FX j 0) rv (FX j 3) (fa j 10)), ((fa j 10), mkC (fa j 11)), ((fa j 11), .inl (cJ, 4, .inr (.inl kf)))]) (pl := va_pl L (pf cJ kd pi bd af bo)) (fls_up (sv := sv) (tv := tv) (bv := bv) (cv := cv) (rv := rv) (f := f) (g := g) (kf := kf) hfu_20) (perm_idx (X := [(b0, cbC r0 fl nw), (fl, flC cO n fa), (r0, rdC ov (va_rf ol) r1 r2 r3 r4 r5), (r1, chC cf cl zn 0), (r2, chC cf cl zn 1), (r3, chC cf cl zn 2), (r4, chC cf cl zn 3), (r5, tlC cI tf), ((fa j 0), fwC (fa j 1) (fa j 9)), ((fa j 1), snC (FX j 0) (FX j 1) (FX j 2) sv (fa j 2) (fa j 3) (fa j 8)), ((fa j 2), tmC tv), ((fa j 3), boC (fa j 4) (fa j 6) bv), ((fa j 4), mkC (fa j 5)), ((fa j 5), .inl (cJ, 4, .inr (.inl f))), ((fa j 6), mkC (fa j 7)), ((fa j 7), .inl (cJ, 4, .inr (.inl g))), ((fa j 8), cuC cv), ((fa j 9), rcC (FX j 0) rv (FX j 3) (fa j 10)), ((fa j 10), mkC (fa j 11)), ((fa j 11), .inl (cJ, 4, .inr (.inl kf)))]) (Y := [(b0, cbC r0 fl nw), (fl, flC cO n fa), (r0, rdC ov (va_rf ol) r1 r2 r3 r4 r5), (r1, chC cf cl zn 0), (r2, chC cf cl zn 1), (r3, chC cf cl zn 2), (r4, chC cf cl zn 3), (r5, tlC cI tf), ((fa j 0), fwC (fa j 1) (fa j 9)), ((fa j 1), snC (FX j 0) (FX j 1) (FX j 2) sv (fa j 2) (fa j 3) (fa j 8)), ((fa j 2), tmC tv), ((fa j 3), boC (fa j 4) (fa j 6) bv), ((fa j 4), mkC (fa j 5)), ((fa j 5), .inl (cJ, 4, .inr (.inl f))), ((fa j 6), mkC (fa j 7)), ((fa j 7), .inl (cJ, 4, .inr (.inl g))), ((fa j 8), cuC cv), ((fa j 9), rcC (FX j 0) rv (FX j 3) (fa j 10)), ((fa j 10), mkC (fa j 11)), ((fa j 11), .inl (cJ, 4, .inr (.inl kf)))]) (N := 20) [0, 1, 2, 3, 4, 5, 6, 7, 8, 9, 10, 11, 12, 13, 14, 15, 16, 17, 18, 19] rfl rfl (by decide))
    have hP := hP.perm hpo
    have hD := hD.perm hpo
    clear hpo hfu_20
    have hP : va_P D vwCl (([(b0, cbC r0 fl nw), (fl, flC cO n fa), (r0, rdC ov (va_rf ol) r1 r2 r3 r4 r5), (r1, chC cf cl zn 0), (r2, chC cf cl zn 1), (r3, chC cf cl zn 2), (r4, chC cf cl zn 3), (r5, tlC cI tf)] ++ va_pl L (pf cJ kd pi bd af bo)) ++ fls cJ fa FX (va_up FV j (fpk sv tv bv cv rv)) (va_up FJ j (fpj f g kf)) n) H := hP
    have hD : va_D A (([(b0, cbC r0 fl nw), (fl, flC cO n fa), (r0, rdC ov (va_rf ol) r1 r2 r3 r4 r5), (r1, chC cf cl zn 0), (r2, chC cf cl zn 1), (r3, chC cf cl zn 2), (r4, chC cf cl zn 3), (r5, tlC cI tf)] ++ va_pl L (pf cJ kd pi bd af bo)) ++ fls cJ fa FX (va_up FV j (fpk sv tv bv cv rv)) (va_up FJ j (fpj f g kf)) n) := hD
    generalize hfv : va_up FV j (fpk sv tv bv cv rv) = FV at hP hD
    generalize hfj : va_up FJ j (fpj f g kf) = FJ at hP hD
    have hE := bs_at hfv hE
    have hE := bs_at hfj hE
    clear hfv hfj
    have hP9 : va_P D vwCl (([(b0, cbC r0 fl nw), (fl, flC cO n fa), (r0, rdC ov (va_rf ol) r1 r2 r3 r4 r5), (r1, chC cf cl zn 0), (r2, chC cf cl zn 1), (r3, chC cf cl zn 2), (r4, chC cf cl zn 3), (r5, tlC cI tf)] ++ va_pl L (pf cJ kd pi bd af bo)) ++ fls cJ fa FX FV FJ n) _ := hP
    have hD9 : va_D A (([(b0, cbC r0 fl nw), (fl, flC cO n fa), (r0, rdC ov (va_rf ol) r1 r2 r3 r4 r5), (r1, chC cf cl zn 0), (r2, chC cf cl zn 1), (r3, chC cf cl zn 2), (r4, chC cf cl zn 3), (r5, tlC cI tf)] ++ va_pl L (pf cJ kd pi bd af bo)) ++ fls cJ fa FX FV FJ n) := hD
    exact W.iret (v := r_21) hx hb hr (fun t ht hW => ⟨⟨r_21, (), rfl, ⟨trivial, (by rw [← hRES, hE])⟩, ⟨FV, FJ, ⟨(by rw [← hRES, hE]), (by rw [← hRES, hE])⟩, by rw [ht]; exact hP9, va_K.moved hW.alike hK, hD9⟩⟩, hS.F ht⟩) hS.2.2 dX10_sender_25

def xc_receiver (n : Nat) (FX : Nat → Nat → Int32) (FV : FVt) (FJ : FJt) (a1 a2 : Int32) : FVt × FJt × Int32 := bd (isf a1 n) (fun r1 => if r1 = 0 then (FV, FJ, (-1 : Int32)) else bd (xc_rtell (FX a1.toNatClampNeg 0) (FX a1.toNatClampNeg 3) (FV a1.toNatClampNeg 4) (FJ a1.toNatClampNeg 2) a2) (fun t1 => bd t1.1 (fun rv => bd t1.2.1 (fun kf => bd t1.2.2 (fun r2 => bd (va_up FV a1.toNatClampNeg (fpk (FV a1.toNatClampNeg 0) (FV a1.toNatClampNeg 1) (FV a1.toNatClampNeg 2) (FV a1.toNatClampNeg 3) rv)) (fun FV => bd (va_up FJ a1.toNatClampNeg (fpj (FJ a1.toNatClampNeg 0) (FJ a1.toNatClampNeg 1) kf)) (fun FJ => (FV, FJ, r2))))))))
set_option maxHeartbeats 4000000 in
set_option maxRecDepth 100000 in
theorem s_receiver (l : Launch) (D : va_G) (cI cJ cZ cO : ClassId) (sz : Nat) (b0 fl : Nat) (nw : Int32) (n : Nat) (fa : Nat → Nat → Nat) (FX : Nat → Nat → Int32) (FV : Nat → Nat → Nat → Int32) (FJ : Nat → Nat → Nat → Int64) (hn : n ≤ 4) (r0 r1 r2 r3 r4 r5 : Nat) (ov : Nat → Int32) (ol : Option Nat) (cf cl : Nat → Option Nat) (zn : Nat → Int32) (xl : Nat → List Nat) (tag : Nat → Nat) (L : List Nat) (kd : Nat → Bool) (pi : Nat → Nat → Int32) (bd : Nat → Nat) (af : Nat → Option Nat) (bo : Nat → Nat → Int64) (go : Option S4) (gq : List S3) (gw : List S4) (ga : List A6) (tf : Nat → Int32) (a1 a2 : Int32) : Met l yX10_receiver (wa yX10_receiver cX10_receiver 3 (some .int)) ({ frames := 1, cells := 0, slots := 0, locals := 21 }) (va_Pc [.ref b0, .int a1, .int a2] (pw_s D cI cJ cZ cO sz (([(b0, cbC r0 fl nw), (fl, flC cO n fa), (r0, rdC ov (va_rf ol) r1 r2 r3 r4 r5), (r1, chC cf cl zn 0), (r2, chC cf cl zn 1), (r3, chC cf cl zn 2), (r4, chC cf cl zn 3), (r5, tlC cI tf)] ++ va_pl L (pf cJ kd pi bd af bo)) ++ fls cJ fa FX FV FJ n))) (va_Qi (fun (r : Int32) (_ : Unit) => ((True) ∧ r = (xc_receiver n FX FV FJ a1 a2).2.2)) (fun (_ : Unit) (t : State) => ∃ (FV2 : Nat → Nat → Nat → Int32) (FJ2 : Nat → Nat → Nat → Int64), (FV2 = (xc_receiver n FX FV FJ a1 a2).1 ∧ FJ2 = (xc_receiver n FX FV FJ a1 a2).2.1) ∧ pw_t D cI cJ cZ cO (va_A (([(b0, cbC r0 fl nw), (fl, flC cO n fa), (r0, rdC ov (va_rf ol) r1 r2 r3 r4 r5), (r1, chC cf cl zn 0), (r2, chC cf cl zn 1), (r3, chC cf cl zn 2), (r4, chC cf cl zn 3), (r5, tlC cI tf)] ++ va_pl L (pf cJ kd pi bd af bo)) ++ fls cJ fa FX FV FJ n) sz) (([(b0, cbC r0 fl nw), (fl, flC cO n fa), (r0, rdC ov (va_rf ol) r1 r2 r3 r4 r5), (r1, chC cf cl zn 0), (r2, chC cf cl zn 1), (r3, chC cf cl zn 2), (r4, chC cf cl zn 3), (r5, tlC cI tf)] ++ va_pl L (pf cJ kd pi bd af bo)) ++ fls cJ fa FX FV2 FJ2 n) t) (va_A (([(b0, cbC r0 fl nw), (fl, flC cO n fa), (r0, rdC ov (va_rf ol) r1 r2 r3 r4 r5), (r1, chC cf cl zn 0), (r2, chC cf cl zn 1), (r3, chC cf cl zn 2), (r4, chC cf cl zn 3), (r5, tlC cI tf)] ++ va_pl L (pf cJ kd pi bd af bo)) ++ fls cJ fa FX FV FJ n) sz)) 0 0 (va_A (([(b0, cbC r0 fl nw), (fl, flC cO n fa), (r0, rdC ov (va_rf ol) r1 r2 r3 r4 r5), (r1, chC cf cl zn 0), (r2, chC cf cl zn 1), (r3, chC cf cl zn 2), (r4, chC cf cl zn 3), (r5, tlC cI tf)] ++ va_pl L (pf cJ kd pi bd af bo)) ++ fls cJ fa FX FV FJ n) sz) := by
  refine Met.ofW (cc := cX10_receiver) (maxL := 3) (ret := (some .int)) (by decide) rfl ?_
  intro p e s m args below meth c s₁ B hml hv
  obtain ⟨rfl, hsz, hP, hK, hD0, hN⟩ := hv
  have hx := B.exec
  have hb := B.bytes
  have hr := B.returns
  have hts := atoms_spec (ws := (wa yX10_receiver cX10_receiver 3 (some .int))) B.pre
  have ha : ∀ w ∈ wsL_law, w.before _ s = true := fun w h => hts w (List.mem_cons_of_mem _ h)
  have hown : s.vm.findClass RX10 = some m.cls := findClass_of_methodNamed B.named
  have hlocks := B.notSynchronized
  subst hsz
  have hD := hD0.self (sz := s.heap.size)
  generalize hAe : va_A (([(b0, cbC r0 fl nw), (fl, flC cO n fa), (r0, rdC ov (va_rf ol) r1 r2 r3 r4 r5), (r1, chC cf cl zn 0), (r2, chC cf cl zn 1), (r3, chC cf cl zn 2), (r4, chC cf cl zn 3), (r5, tlC cI tf)] ++ va_pl L (pf cJ kd pi bd af bo)) ++ fls cJ fa FX FV FJ n) s.heap.size = A at hD ⊢
  have hA : ∀ q : Nat, s.heap.size ≤ q → A q := fun q h => by rw [← hAe]; exact Or.inr h
  have hS : va_S A s.heap s.heap [] := va_S.rf
  have hP : va_P D vwCl (([(b0, cbC r0 fl nw), (fl, flC cO n fa), (r0, rdC ov (va_rf ol) r1 r2 r3 r4 r5), (r1, chC cf cl zn 0), (r2, chC cf cl zn 1), (r3, chC cf cl zn 2), (r4, chC cf cl zn 3), (r5, tlC cI tf)] ++ va_pl L (pf cJ kd pi bd af bo)) ++ fls cJ fa FX FV FJ n) s.heap := hP
  have hl := lv_entry ([.ref b0, .int a1, .int a2]) (n := 3) (Nat.le_of_ble_eq_true rfl)
  rw [lg_entry_eq]
  generalize (lg_sl ([.ref b0, .int a1, .int a2]) ++ List.replicate (3 - (lg_sl ([.ref b0, .int a1, .int a2])).length) Slot.unset).toArray = ls at hl ⊢
  have hl : lv_has ls 3 [(0, .ref b0), (1, .int a1), (2, .int a2)] := hl
  obtain ⟨QP, hQP⟩ : ∃ y : State → Prop, y = (MQ below (va_Qi (fun (r : Int32) (_ : Unit) => ((True) ∧ r = (xc_receiver n FX FV FJ a1 a2).2.2)) (fun (_ : Unit) (t : State) => ∃ (FV2 : Nat → Nat → Nat → Int32) (FJ2 : Nat → Nat → Nat → Int64), (FV2 = (xc_receiver n FX FV FJ a1 a2).1 ∧ FJ2 = (xc_receiver n FX FV FJ a1 a2).2.1) ∧ pw_t D cI cJ cZ cO A (([(b0, cbC r0 fl nw), (fl, flC cO n fa), (r0, rdC ov (va_rf ol) r1 r2 r3 r4 r5), (r1, chC cf cl zn 0), (r2, chC cf cl zn 1), (r3, chC cf cl zn 2), (r4, chC cf cl zn 3), (r5, tlC cI tf)] ++ va_pl L (pf cJ kd pi bd af bo)) ++ fls cJ fa FX FV2 FJ2 n) t) A) #[(.ref b0 : Value), (.int a1 : Value), (.int a2 : Value)] s 0 0 A) := ⟨_, rfl⟩
  obtain ⟨RES, hRES⟩ : ∃ y, y = (xc_receiver n FX FV FJ a1 a2) := ⟨_, rfl⟩
  -- from the entry
  have hE := hRES
  unfold xc_receiver at hE
  refine lv_aload_n hx hb dX10_receiver_0 rfl (lv_at hl 0 rfl) ?_
  refine lv_iload_n hx hb dX10_receiver_1 rfl (lv_at hl 1 rfl) ?_
  have hp0 := perm_idx (X := [(b0, cbC r0 fl nw), (fl, flC cO n fa), (r0, rdC ov (va_rf ol) r1 r2 r3 r4 r5), (r1, chC cf cl zn 0), (r2, chC cf cl zn 1), (r3, chC cf cl zn 2), (r4, chC cf cl zn 3), (r5, tlC cI tf)]) (Y := [(b0, cbC r0 fl nw), (fl, flC cO n fa)] ++ [(r0, rdC ov (va_rf ol) r1 r2 r3 r4 r5), (r1, chC cf cl zn 0), (r2, chC cf cl zn 1), (r3, chC cf cl zn 2), (r4, chC cf cl zn 3), (r5, tlC cI tf)]) (N := 8) [0, 1, 2, 3, 4, 5, 6, 7] rfl rfl (by decide)
  have hPq := hP.perm (pm_Q (cx := [(b0, cbC r0 fl nw), (fl, flC cO n fa)]) (xr := [(r0, rdC ov (va_rf ol) r1 r2 r3 r4 r5), (r1, chC cf cl zn 0), (r2, chC cf cl zn 1), (r3, chC cf cl zn 2), (r4, chC cf cl zn 3), (r5, tlC cI tf)]) (pl := va_pl L (pf cJ kd pi bd af bo)) (R := fls cJ fa FX FV FJ n) hp0)
  have hDq := hD.perm (pm_Q (cx := [(b0, cbC r0 fl nw), (fl, flC cO n fa)]) (xr := [(r0, rdC ov (va_rf ol) r1 r2 r3 r4 r5), (r1, chC cf cl zn 0), (r2, chC cf cl zn 1), (r3, chC cf cl zn 2), (r4, chC cf cl zn 3), (r5, tlC cI tf)]) (pl := va_pl L (pf cJ kd pi bd af bo)) (R := fls cJ fa FX FV FJ n) hp0)
  have hPc := hPq.left
  have hDc := hDq.left
  have hFc := va_freeR hDq hS hA
  refine va_calli (va_runV (As := [.int a1]) (rest := []) ⟨hx, hb, hml, hown, ha⟩ (c_isFlow l D cI cJ cZ cO _ b0 r0 fl nw n (fun i => some (fa i 0)) a1) (cwV 1 ha (gaV kl_X10_33 km_X10_isFlow ks_X10_isFlow kz_X10 kd_X10_isFlow) rfl rfl rfl (by decide +kernel) ⟨Nat.le_of_ble_eq_true rfl, Nat.le_of_ble_eq_true rfl⟩) ⟨pw_blind, va_recv hK hPc (ci := 10) (q0 := 0) rfl rfl, fun U hU hW => ⟨rfl, pw_start hU hW hPc hK hDc hN⟩⟩ rfl rfl hl.1 rfl (lv_room (Nat.le_of_ble_eq_true rfl)) dX10_receiver_2 ⟨Nat.le_of_ble_eq_true rfl, Nat.le_of_ble_eq_true rfl⟩) hS (fun q _ h => hFc q h) hFc (fun r_11 u t H1 locs ht hvm hw hB hz1 hk1 hS => ?_)
  obtain ⟨hP1, hK1, hD1⟩ := hB
  rw [ht] at hP1
  obtain ⟨hP, hD⟩ := va_joinR (w1 := [(b0, cbC r0 fl nw), (fl, flC cO n fa)]) hPq hDq hk1 hFc hP1 hD1
  have hP := hP.perm (pm_Qb (xr := [(r0, rdC ov (va_rf ol) r1 r2 r3 r4 r5), (r1, chC cf cl zn 0), (r2, chC cf cl zn 1), (r3, chC cf cl zn 2), (r4, chC cf cl zn 3), (r5, tlC cI tf)]) (w1 := [(b0, cbC r0 fl nw), (fl, flC cO n fa)]) (pl := va_pl L (pf cJ kd pi bd af bo)) (R := fls cJ fa FX FV FJ n))
  have hD := hD.perm (pm_Qb (xr := [(r0, rdC ov (va_rf ol) r1 r2 r3 r4 r5), (r1, chC cf cl zn 0), (r2, chC cf cl zn 1), (r3, chC cf cl zn 2), (r4, chC cf cl zn 3), (r5, tlC cI tf)]) (w1 := [(b0, cbC r0 fl nw), (fl, flC cO n fa)]) (pl := va_pl L (pf cJ kd pi bd af bo)) (R := fls cJ fa FX FV FJ n))
  clear hp0 hPq hDq hPc hDc hP1 hD1
  generalize H1 = H at hP hS ⊢
  have hP : va_P D vwCl (([(r0, rdC ov (va_rf ol) r1 r2 r3 r4 r5), (r1, chC cf cl zn 0), (r2, chC cf cl zn 1), (r3, chC cf cl zn 2), (r4, chC cf cl zn 3), (r5, tlC cI tf), (b0, cbC r0 fl nw), (fl, flC cO n fa)] ++ va_pl L (pf cJ kd pi bd af bo)) ++ fls cJ fa FX FV FJ n) H := hP
  have hD : va_D A (([(r0, rdC ov (va_rf ol) r1 r2 r3 r4 r5), (r1, chC cf cl zn 0), (r2, chC cf cl zn 1), (r3, chC cf cl zn 2), (r4, chC cf cl zn 3), (r5, tlC cI tf), (b0, cbC r0 fl nw), (fl, flC cO n fa)] ++ va_pl L (pf cJ kd pi bd af bo)) ++ fls cJ fa FX FV FJ n) := hD
  have hpo := pm_X (pl := va_pl L (pf cJ kd pi bd af bo)) (R := fls cJ fa FX FV FJ n) (perm_idx (X := [(r0, rdC ov (va_rf ol) r1 r2 r3 r4 r5), (r1, chC cf cl zn 0), (r2, chC cf cl zn 1), (r3, chC cf cl zn 2), (r4, chC cf cl zn 3), (r5, tlC cI tf), (b0, cbC r0 fl nw), (fl, flC cO n fa)]) (Y := [(b0, cbC r0 fl nw), (fl, flC cO n fa), (r0, rdC ov (va_rf ol) r1 r2 r3 r4 r5), (r1, chC cf cl zn 0), (r2, chC cf cl zn 1), (r3, chC cf cl zn 2), (r4, chC cf cl zn 3), (r5, tlC cI tf)]) (N := 8) [6, 7, 0, 1, 2, 3, 4, 5] rfl rfl (by decide))
  have hP := hP.perm hpo
  have hD := hD.perm hpo
  clear hpo
  have hP : va_P D vwCl (([(b0, cbC r0 fl nw), (fl, flC cO n fa), (r0, rdC ov (va_rf ol) r1 r2 r3 r4 r5), (r1, chC cf cl zn 0), (r2, chC cf cl zn 1), (r3, chC cf cl zn 2), (r4, chC cf cl zn 3), (r5, tlC cI tf)] ++ va_pl L (pf cJ kd pi bd af bo)) ++ fls cJ fa FX FV FJ n) H := hP
  have hD : va_D A (([(b0, cbC r0 fl nw), (fl, flC cO n fa), (r0, rdC ov (va_rf ol) r1 r2 r3 r4 r5), (r1, chC cf cl zn 0), (r2, chC cf cl zn 1), (r3, chC cf cl zn 2), (r4, chC cf cl zn 3), (r5, tlC cI tf)] ++ va_pl L (pf cJ kd pi bd af bo)) ++ fls cJ fa FX FV FJ n) := hD
  refine W.widen (k := 0) (n := 0) (Nat.le_of_ble_eq_true rfl) (Nat.le_of_ble_eq_true rfl) ?_
  have hr_11 := hw
  have hE := bd_at hr_11 hE
  refine lv_if_eq (tgt := 24) hx hb dX10_receiver_5 (by decide) (fun c_12 => ?_) (fun c_12 => ?_)
  · have hE := hE.trans (if_pos c_12)
    refine lv_iconst (v := (-1)) hx hb dX10_receiver_24 (by decide) ?_
    have hP9 : va_P D vwCl (([(b0, cbC r0 fl nw), (fl, flC cO n fa), (r0, rdC ov (va_rf ol) r1 r2 r3 r4 r5), (r1, chC cf cl zn 0), (r2, chC cf cl zn 1), (r3, chC cf cl zn 2), (r4, chC cf cl zn 3), (r5, tlC cI tf)] ++ va_pl L (pf cJ kd pi bd af bo)) ++ fls cJ fa FX FV FJ n) _ := hP
    have hD9 : va_D A (([(b0, cbC r0 fl nw), (fl, flC cO n fa), (r0, rdC ov (va_rf ol) r1 r2 r3 r4 r5), (r1, chC cf cl zn 0), (r2, chC cf cl zn 1), (r3, chC cf cl zn 2), (r4, chC cf cl zn 3), (r5, tlC cI tf)] ++ va_pl L (pf cJ kd pi bd af bo)) ++ fls cJ fa FX FV FJ n) := hD
    exact W.iret (v := (-1)) hx hb hr (fun t ht hW => ⟨⟨(-1), (), rfl, ⟨trivial, (by rw [← hRES, hE])⟩, ⟨FV, FJ, ⟨(by rw [← hRES, hE]), (by rw [← hRES, hE])⟩, by rw [ht]; exact hP9, va_K.moved hW.alike hK, hD9⟩⟩, hS.F ht⟩) hS.2.2 dX10_receiver_25
  · have hE := hE.trans (if_neg c_12)
    obtain ⟨j, hj, hxj⟩ := isf_j hn (by rw [← hr_11]; exact c_12)
    subst hxj
    rw [nI_clamp (show j < 2 ^ 31 by omega)] at hE
    refine lv_aload_n hx hb dX10_receiver_8 rfl (lv_at hl 0 rfl) ?_
    refine va_get (D := D) (ci := 10) (v := .ref fl) (C := RX10) (T := TX10) (N := 3) hx hb ha inlX10 hown hK hP 0 rfl rfl 1 (by decide) (ha _ kf_X10_18) (fun _ h9 => h9) rfl dX10_receiver_9 ?_
    refine lv_iload_n hx hb dX10_receiver_12 rfl (lv_at hl 1 rfl) ?_
    refine va_aldq hx hb hK hP 1 3 rfl rfl (vp_in_nI hj (by omega)) dX10_receiver_13 ?_
    rw [nI_clamp (show j < 2 ^ 31 by omega)]
    refine W.eq (g2 := F0 m 14 ls [.ref (fa j 0)]) rfl ?_
    obtain ⟨FA_13, FB_14, hfe_15, hfu_16⟩ := fls_at (cJ := cJ) (fa := fa) (FX := FX) (FV := FV) (FJ := FJ) hj
    have hpo := pm_open (X := [(b0, cbC r0 fl nw), (fl, flC cO n fa), (r0, rdC ov (va_rf ol) r1 r2 r3 r4 r5), (r1, chC cf cl zn 0), (r2, chC cf cl zn 1), (r3, chC cf cl zn 2), (r4, chC cf cl zn 3), (r5, tlC cI tf)]) (c := fcs cJ fa FX FV FJ j) (pl := va_pl L (pf cJ kd pi bd af bo)) hfe_15
    have hP := hP.perm hpo
    have hD := hD.perm hpo
    clear hpo
    have hP : va_P D vwCl (([(b0, cbC r0 fl nw), (fl, flC cO n fa), (r0, rdC ov (va_rf ol) r1 r2 r3 r4 r5), (r1, chC cf cl zn 0), (r2, chC cf cl zn 1), (r3, chC cf cl zn 2), (r4, chC cf cl zn 3), (r5, tlC cI tf), ((fa j 0), fwC (fa j 1) (fa j 9)), ((fa j 1), snC (FX j 0) (FX j 1) (FX j 2) (FV j 0) (fa j 2) (fa j 3) (fa j 8)), ((fa j 2), tmC (FV j 1)), ((fa j 3), boC (fa j 4) (fa j 6) (FV j 2)), ((fa j 4), mkC (fa j 5)), ((fa j 5), .inl (cJ, 4, .inr (.inl (FJ j 0)))), ((fa j 6), mkC (fa j 7)), ((fa j 7), .inl (cJ, 4, .inr (.inl (FJ j 1)))), ((fa j 8), cuC (FV j 3)), ((fa j 9), rcC (FX j 0) (FV j 4) (FX j 3) (fa j 10)), ((fa j 10), mkC (fa j 11)), ((fa j 11), .inl (cJ, 4, .inr (.inl (FJ j 2))))] ++ va_pl L (pf cJ kd pi bd af bo)) ++ (FA_13 ++ FB_14)) H := hP
    have hD : va_D A (([(b0, cbC r0 fl nw), (fl, flC cO n fa), (r0, rdC ov (va_rf ol) r1 r2 r3 r4 r5), (r1, chC cf cl zn 0), (r2, chC cf cl zn 1), (r3, chC cf cl zn 2), (r4, chC cf cl zn 3), (r5, tlC cI tf), ((fa j 0), fwC (fa j 1) (fa j 9)), ((fa j 1), snC (FX j 0) (FX j 1) (FX j 2) (FV j 0) (fa j 2) (fa j 3) (fa j 8)), ((fa j 2), tmC (FV j 1)), ((fa j 3), boC (fa j 4) (fa j 6) (FV j 2)), ((fa j 4), mkC (fa j 5)), ((fa j 5), .inl (cJ, 4, .inr (.inl (FJ j 0)))), ((fa j 6), mkC (fa j 7)), ((fa j 7), .inl (cJ, 4, .inr (.inl (FJ j 1)))), ((fa j 8), cuC (FV j 3)), ((fa j 9), rcC (FX j 0) (FV j 4) (FX j 3) (fa j 10)), ((fa j 10), mkC (fa j 11)), ((fa j 11), .inl (cJ, 4, .inr (.inl (FJ j 2))))] ++ va_pl L (pf cJ kd pi bd af bo)) ++ (FA_13 ++ FB_14)) := hD
    generalize hv0 : FV j 0 = sv at hP hD hE
    generalize hv1 : FV j 1 = tv at hP hD hE
    generalize hv2 : FV j 2 = bv at hP hD hE
    generalize hv3 : FV j 3 = cv at hP hD hE
    generalize hv4 : FV j 4 = rv at hP hD hE
    generalize hj0 : FJ j 0 = f at hP hD hE
    generalize hj1 : FJ j 1 = g at hP hD hE
    generalize hj2 : FJ j 2 = kf at hP hD hE
    refine va_getN (D := D) (ci := 3) (v := .ref (fa j 9)) (C := RX3) (T := TX3) (N := 2) hx hb ha inlX3 hown hK hP 8 rfl rfl 1 (by decide) (va_Nw.use rfl (hN.f RX10 48 "CongestionBench$Flow" "receiver" "LCongestionBench$Receiver;" "CongestionBench" (by decide +kernel))) (fun _ h9 => h9) rfl dX10_receiver_14 ?_
    refine lv_iload_n hx hb dX10_receiver_17 rfl (lv_at hl 2 rfl) ?_
    have hp0 := perm_idx (X := [(b0, cbC r0 fl nw), (fl, flC cO n fa), (r0, rdC ov (va_rf ol) r1 r2 r3 r4 r5), (r1, chC cf cl zn 0), (r2, chC cf cl zn 1), (r3, chC cf cl zn 2), (r4, chC cf cl zn 3), (r5, tlC cI tf), ((fa j 0), fwC (fa j 1) (fa j 9)), ((fa j 1), snC (FX j 0) (FX j 1) (FX j 2) sv (fa j 2) (fa j 3) (fa j 8)), ((fa j 2), tmC tv), ((fa j 3), boC (fa j 4) (fa j 6) bv), ((fa j 4), mkC (fa j 5)), ((fa j 5), .inl (cJ, 4, .inr (.inl f))), ((fa j 6), mkC (fa j 7)), ((fa j 7), .inl (cJ, 4, .inr (.inl g))), ((fa j 8), cuC cv), ((fa j 9), rcC (FX j 0) rv (FX j 3) (fa j 10)), ((fa j 10), mkC (fa j 11)), ((fa j 11), .inl (cJ, 4, .inr (.inl kf)))]) (Y := [((fa j 9), rcC (FX j 0) rv (FX j 3) (fa j 10)), ((fa j 10), mkC (fa j 11)), ((fa j 11), .inl (cJ, 4, .inr (.inl kf)))] ++ [(b0, cbC r0 fl nw), (fl, flC cO n fa), (r0, rdC ov (va_rf ol) r1 r2 r3 r4 r5), (r1, chC cf cl zn 0), (r2, chC cf cl zn 1), (r3, chC cf cl zn 2), (r4, chC cf cl zn 3), (r5, tlC cI tf), ((fa j 0), fwC (fa j 1) (fa j 9)), ((fa j 1), snC (FX j 0) (FX j 1) (FX j 2) sv (fa j 2) (fa j 3) (fa j 8)), ((fa j 2), tmC tv), ((fa j 3), boC (fa j 4) (fa j 6) bv), ((fa j 4), mkC (fa j 5)), ((fa j 5), .inl (cJ, 4, .inr (.inl f))), ((fa j 6), mkC (fa j 7)), ((fa j 7), .inl (cJ, 4, .inr (.inl g))), ((fa j 8), cuC cv)]) (N := 20) [17, 18, 19, 0, 1, 2, 3, 4, 5, 6, 7, 8, 9, 10, 11, 12, 13, 14, 15, 16] rfl rfl (by decide)
    have hPq := hP.perm (pm_Q (cx := [((fa j 9), rcC (FX j 0) rv (FX j 3) (fa j 10)), ((fa j 10), mkC (fa j 11)), ((fa j 11), .inl (cJ, 4, .inr (.inl kf)))]) (xr := [(b0, cbC r0 fl nw), (fl, flC cO n fa), (r0, rdC ov (va_rf ol) r1 r2 r3 r4 r5), (r1, chC cf cl zn 0), (r2, chC cf cl zn 1), (r3, chC cf cl zn 2), (r4, chC cf cl zn 3), (r5, tlC cI tf), ((fa j 0), fwC (fa j 1) (fa j 9)), ((fa j 1), snC (FX j 0) (FX j 1) (FX j 2) sv (fa j 2) (fa j 3) (fa j 8)), ((fa j 2), tmC tv), ((fa j 3), boC (fa j 4) (fa j 6) bv), ((fa j 4), mkC (fa j 5)), ((fa j 5), .inl (cJ, 4, .inr (.inl f))), ((fa j 6), mkC (fa j 7)), ((fa j 7), .inl (cJ, 4, .inr (.inl g))), ((fa j 8), cuC cv)]) (pl := va_pl L (pf cJ kd pi bd af bo)) (R := (FA_13 ++ FB_14)) hp0)
    have hDq := hD.perm (pm_Q (cx := [((fa j 9), rcC (FX j 0) rv (FX j 3) (fa j 10)), ((fa j 10), mkC (fa j 11)), ((fa j 11), .inl (cJ, 4, .inr (.inl kf)))]) (xr := [(b0, cbC r0 fl nw), (fl, flC cO n fa), (r0, rdC ov (va_rf ol) r1 r2 r3 r4 r5), (r1, chC cf cl zn 0), (r2, chC cf cl zn 1), (r3, chC cf cl zn 2), (r4, chC cf cl zn 3), (r5, tlC cI tf), ((fa j 0), fwC (fa j 1) (fa j 9)), ((fa j 1), snC (FX j 0) (FX j 1) (FX j 2) sv (fa j 2) (fa j 3) (fa j 8)), ((fa j 2), tmC tv), ((fa j 3), boC (fa j 4) (fa j 6) bv), ((fa j 4), mkC (fa j 5)), ((fa j 5), .inl (cJ, 4, .inr (.inl f))), ((fa j 6), mkC (fa j 7)), ((fa j 7), .inl (cJ, 4, .inr (.inl g))), ((fa j 8), cuC cv)]) (pl := va_pl L (pf cJ kd pi bd af bo)) (R := (FA_13 ++ FB_14)) hp0)
    have hPc := hPq.left
    have hDc := hDq.left
    have hFc := va_freeR hDq hS hA
    refine va_calli (va_runV (As := [.int a2]) (rest := []) ⟨hx, hb, hml, hown, ha⟩ (s_rtell l D cI cJ cZ cO _ (fa j 9) (fa j 10) (fa j 11) (FX j 0) (FX j 3) rv kf a2) (cwV 1 ha (gaV kl_X10_94 km_X6_tell ks_X6_tell kz_X6 kd_X6_tell) rfl rfl rfl (by decide +kernel) ⟨Nat.le_of_ble_eq_true rfl, Nat.le_of_ble_eq_true rfl⟩) ⟨pw_blind, va_recv hK hPc (ci := 6) (q0 := 0) rfl rfl, fun U hU hW => ⟨rfl, pw_start hU hW hPc hK hDc hN⟩⟩ rfl rfl hl.1 rfl (lv_room (Nat.le_of_ble_eq_true rfl)) dX10_receiver_18 ⟨Nat.le_of_ble_eq_true rfl, Nat.le_of_ble_eq_true rfl⟩) hS (fun q _ h => hFc q h) hFc (fun r_17 u t H1 locs ht hvm hw hB hz1 hk1 hS => ?_)
    obtain ⟨rv, kf, ⟨hX0, hX1⟩, hP1, hK1, hD1⟩ := hB
    have hE := bd_at rfl hE
    have hE := bd_at hX0 hE
    have hE := bd_at hX1 hE
    have hE := bd_at hw.2 hE
    rw [ht] at hP1
    obtain ⟨hP, hD⟩ := va_joinR (w1 := [((fa j 9), rcC (FX j 0) rv (FX j 3) (fa j 10)), ((fa j 10), mkC (fa j 11)), ((fa j 11), .inl (cJ, 4, .inr (.inl kf)))]) hPq hDq hk1 hFc hP1 hD1
    have hP := hP.perm (pm_Qb (xr := [(b0, cbC r0 fl nw), (fl, flC cO n fa), (r0, rdC ov (va_rf ol) r1 r2 r3 r4 r5), (r1, chC cf cl zn 0), (r2, chC cf cl zn 1), (r3, chC cf cl zn 2), (r4, chC cf cl zn 3), (r5, tlC cI tf), ((fa j 0), fwC (fa j 1) (fa j 9)), ((fa j 1), snC (FX j 0) (FX j 1) (FX j 2) sv (fa j 2) (fa j 3) (fa j 8)), ((fa j 2), tmC tv), ((fa j 3), boC (fa j 4) (fa j 6) bv), ((fa j 4), mkC (fa j 5)), ((fa j 5), .inl (cJ, 4, .inr (.inl f))), ((fa j 6), mkC (fa j 7)), ((fa j 7), .inl (cJ, 4, .inr (.inl g))), ((fa j 8), cuC cv)]) (w1 := [((fa j 9), rcC (FX j 0) rv (FX j 3) (fa j 10)), ((fa j 10), mkC (fa j 11)), ((fa j 11), .inl (cJ, 4, .inr (.inl kf)))]) (pl := va_pl L (pf cJ kd pi bd af bo)) (R := (FA_13 ++ FB_14)))
    have hD := hD.perm (pm_Qb (xr := [(b0, cbC r0 fl nw), (fl, flC cO n fa), (r0, rdC ov (va_rf ol) r1 r2 r3 r4 r5), (r1, chC cf cl zn 0), (r2, chC cf cl zn 1), (r3, chC cf cl zn 2), (r4, chC cf cl zn 3), (r5, tlC cI tf), ((fa j 0), fwC (fa j 1) (fa j 9)), ((fa j 1), snC (FX j 0) (FX j 1) (FX j 2) sv (fa j 2) (fa j 3) (fa j 8)), ((fa j 2), tmC tv), ((fa j 3), boC (fa j 4) (fa j 6) bv), ((fa j 4), mkC (fa j 5)), ((fa j 5), .inl (cJ, 4, .inr (.inl f))), ((fa j 6), mkC (fa j 7)), ((fa j 7), .inl (cJ, 4, .inr (.inl g))), ((fa j 8), cuC cv)]) (w1 := [((fa j 9), rcC (FX j 0) rv (FX j 3) (fa j 10)), ((fa j 10), mkC (fa j 11)), ((fa j 11), .inl (cJ, 4, .inr (.inl kf)))]) (pl := va_pl L (pf cJ kd pi bd af bo)) (R := (FA_13 ++ FB_14)))
    clear hp0 hPq hDq hPc hDc hP1 hD1
    generalize H1 = H at hP hS ⊢
    have hP : va_P D vwCl (([(b0, cbC r0 fl nw), (fl, flC cO n fa), (r0, rdC ov (va_rf ol) r1 r2 r3 r4 r5), (r1, chC cf cl zn 0), (r2, chC cf cl zn 1), (r3, chC cf cl zn 2), (r4, chC cf cl zn 3), (r5, tlC cI tf), ((fa j 0), fwC (fa j 1) (fa j 9)), ((fa j 1), snC (FX j 0) (FX j 1) (FX j 2) sv (fa j 2) (fa j 3) (fa j 8)), ((fa j 2), tmC tv), ((fa j 3), boC (fa j 4) (fa j 6) bv), ((fa j 4), mkC (fa j 5)), ((fa j 5), .inl (cJ, 4, .inr (.inl f))), ((fa j 6), mkC (fa j 7)), ((fa j 7), .inl (cJ, 4, .inr (.inl g))), ((fa j 8), cuC cv), ((fa j 9), rcC (FX j 0) rv (FX j 3) (fa j 10)), ((fa j 10), mkC (fa j 11)), ((fa j 11), .inl (cJ, 4, .inr (.inl kf)))] ++ va_pl L (pf cJ kd pi bd af bo)) ++ (FA_13 ++ FB_14)) H := hP
    have hD : va_D A (([(b0, cbC r0 fl nw), (fl, flC cO n fa), (r0, rdC ov (va_rf ol) r1 r2 r3 r4 r5), (r1, chC cf cl zn 0), (r2, chC cf cl zn 1), (r3, chC cf cl zn 2), (r4, chC cf cl zn 3), (r5, tlC cI tf), ((fa j 0), fwC (fa j 1) (fa j 9)), ((fa j 1), snC (FX j 0) (FX j 1) (FX j 2) sv (fa j 2) (fa j 3) (fa j 8)), ((fa j 2), tmC tv), ((fa j 3), boC (fa j 4) (fa j 6) bv), ((fa j 4), mkC (fa j 5)), ((fa j 5), .inl (cJ, 4, .inr (.inl f))), ((fa j 6), mkC (fa j 7)), ((fa j 7), .inl (cJ, 4, .inr (.inl g))), ((fa j 8), cuC cv), ((fa j 9), rcC (FX j 0) rv (FX j 3) (fa j 10)), ((fa j 10), mkC (fa j 11)), ((fa j 11), .inl (cJ, 4, .inr (.inl kf)))] ++ va_pl L (pf cJ kd pi bd af bo)) ++ (FA_13 ++ FB_14)) := hD
    refine W.widen (k := 0) (n := 0) (Nat.le_of_ble_eq_true rfl) (Nat.le_of_ble_eq_true rfl) ?_
    have hr_17 := hw.1
    refine lv_goto (tgt := 25) hx hb dX10_receiver_21 (by decide) ?_
    have hpo := pm_close (X := [(b0, cbC r0 fl nw), (fl, flC cO n fa), (r0, rdC ov (va_rf ol) r1 r2 r3 r4 r5), (r1, chC cf cl zn 0), (r2, chC cf cl zn 1), (r3, chC cf cl zn 2), (r4, chC cf cl zn 3), (r5, tlC cI tf)]) (c := [((fa j 0), fwC (fa j 1) (fa j 9)), ((fa j 1), snC (FX j 0) (FX j 1) (FX j 2) sv (fa j 2) (fa j 3) (fa j 8)), ((fa j 2), tmC tv), ((fa j 3), boC (fa j 4) (fa j 6) bv), ((fa j 4), mkC (fa j 5)), ((fa j 5), .inl (cJ, 4, .inr (.inl f))), ((fa j 6), mkC (fa j 7)), ((fa j 7), .inl (cJ, 4, .inr (.inl g))), ((fa j 8), cuC cv), ((fa j 9), rcC (FX j 0) rv (FX j 3) (fa j 10)), ((fa j 10), mkC (fa j 11)), ((fa j 11), .inl (cJ, 4, .inr (.inl kf)))]) (pl := va_pl L (pf cJ kd pi bd af bo)) (fls_up (sv := sv) (tv := tv) (bv := bv) (cv := cv) (rv := rv) (f := f) (g := g) (kf := kf) hfu_16) (perm_idx (X := [(b0, cbC r0 fl nw), (fl, flC cO n fa), (r0, rdC ov (va_rf ol) r1 r2 r3 r4 r5), (r1, chC cf cl zn 0), (r2, chC cf cl zn 1), (r3, chC cf cl zn 2), (r4, chC cf cl zn 3), (r5, tlC cI tf), ((fa j 0), fwC (fa j 1) (fa j 9)), ((fa j 1), snC (FX j 0) (FX j 1) (FX j 2) sv (fa j 2) (fa j 3) (fa j 8)), ((fa j 2), tmC tv), ((fa j 3), boC (fa j 4) (fa j 6) bv), ((fa j 4), mkC (fa j 5)), ((fa j 5), .inl (cJ, 4, .inr (.inl f))), ((fa j 6), mkC (fa j 7)), ((fa j 7), .inl (cJ, 4, .inr (.inl g))), ((fa j 8), cuC cv), ((fa j 9), rcC (FX j 0) rv (FX j 3) (fa j 10)), ((fa j 10), mkC (fa j 11)), ((fa j 11), .inl (cJ, 4, .inr (.inl kf)))]) (Y := [(b0, cbC r0 fl nw), (fl, flC cO n fa), (r0, rdC ov (va_rf ol) r1 r2 r3 r4 r5), (r1, chC cf cl zn 0), (r2, chC cf cl zn 1), (r3, chC cf cl zn 2), (r4, chC cf cl zn 3), (r5, tlC cI tf), ((fa j 0), fwC (fa j 1) (fa j 9)), ((fa j 1), snC (FX j 0) (FX j 1) (FX j 2) sv (fa j 2) (fa j 3) (fa j 8)), ((fa j 2), tmC tv), ((fa j 3), boC (fa j 4) (fa j 6) bv), ((fa j 4), mkC (fa j 5)), ((fa j 5), .inl (cJ, 4, .inr (.inl f))), ((fa j 6), mkC (fa j 7)), ((fa j 7), .inl (cJ, 4, .inr (.inl g))), ((fa j 8), cuC cv), ((fa j 9), rcC (FX j 0) rv (FX j 3) (fa j 10)), ((fa j 10), mkC (fa j 11)), ((fa j 11), .inl (cJ, 4, .inr (.inl kf)))]) (N := 20) [0, 1, 2, 3, 4, 5, 6, 7, 8, 9, 10, 11, 12, 13, 14, 15, 16, 17, 18, 19] rfl rfl (by decide))
    have hP := hP.perm hpo
    have hD := hD.perm hpo
    clear hpo hfu_16
    have hP : va_P D vwCl (([(b0, cbC r0 fl nw), (fl, flC cO n fa), (r0, rdC ov (va_rf ol) r1 r2 r3 r4 r5), (r1, chC cf cl zn 0), (r2, chC cf cl zn 1), (r3, chC cf cl zn 2), (r4, chC cf cl zn 3), (r5, tlC cI tf)] ++ va_pl L (pf cJ kd pi bd af bo)) ++ fls cJ fa FX (va_up FV j (fpk sv tv bv cv rv)) (va_up FJ j (fpj f g kf)) n) H := hP
    have hD : va_D A (([(b0, cbC r0 fl nw), (fl, flC cO n fa), (r0, rdC ov (va_rf ol) r1 r2 r3 r4 r5), (r1, chC cf cl zn 0), (r2, chC cf cl zn 1), (r3, chC cf cl zn 2), (r4, chC cf cl zn 3), (r5, tlC cI tf)] ++ va_pl L (pf cJ kd pi bd af bo)) ++ fls cJ fa FX (va_up FV j (fpk sv tv bv cv rv)) (va_up FJ j (fpj f g kf)) n) := hD
    generalize hfv : va_up FV j (fpk sv tv bv cv rv) = FV at hP hD
    generalize hfj : va_up FJ j (fpj f g kf) = FJ at hP hD
    have hE := bs_at hfv hE
    have hE := bs_at hfj hE
    clear hfv hfj
    have hP9 : va_P D vwCl (([(b0, cbC r0 fl nw), (fl, flC cO n fa), (r0, rdC ov (va_rf ol) r1 r2 r3 r4 r5), (r1, chC cf cl zn 0), (r2, chC cf cl zn 1), (r3, chC cf cl zn 2), (r4, chC cf cl zn 3), (r5, tlC cI tf)] ++ va_pl L (pf cJ kd pi bd af bo)) ++ fls cJ fa FX FV FJ n) _ := hP
    have hD9 : va_D A (([(b0, cbC r0 fl nw), (fl, flC cO n fa), (r0, rdC ov (va_rf ol) r1 r2 r3 r4 r5), (r1, chC cf cl zn 0), (r2, chC cf cl zn 1), (r3, chC cf cl zn 2), (r4, chC cf cl zn 3), (r5, tlC cI tf)] ++ va_pl L (pf cJ kd pi bd af bo)) ++ fls cJ fa FX FV FJ n) := hD
    exact W.iret (v := r_17) hx hb hr (fun t ht hW => ⟨⟨r_17, (), rfl, ⟨trivial, (by rw [← hRES, hE])⟩, ⟨FV, FJ, ⟨(by rw [← hRES, hE]), (by rw [← hRES, hE])⟩, by rw [ht]; exact hP9, va_K.moved hW.alike hK, hD9⟩⟩, hS.F ht⟩) hS.2.2 dX10_receiver_25

def xc_kept (n : Nat) (FX : Nat → Nat → Int32) (FV : FVt) (FJ : FJt) (a1 a2 : Int32) : FVt × FJt × Int32 := bd (isf a1 n) (fun r1 => if r1 = 0 then (FV, FJ, (-1 : Int32)) else bd (xc_leastKept (FX a1.toNatClampNeg 0) (FX a1.toNatClampNeg 3) (FV a1.toNatClampNeg 4) (FJ a1.toNatClampNeg 2) a2) (fun t1 => bd t1.1 (fun rv => bd t1.2.1 (fun kf => bd t1.2.2 (fun r2 => bd (va_up FV a1.toNatClampNeg (fpk (FV a1.toNatClampNeg 0) (FV a1.toNatClampNeg 1) (FV a1.toNatClampNeg 2) (FV a1.toNatClampNeg 3) rv)) (fun FV => bd (va_up FJ a1.toNatClampNeg (fpj (FJ a1.toNatClampNeg 0) (FJ a1.toNatClampNeg 1) kf)) (fun FJ => (FV, FJ, r2))))))))
set_option maxHeartbeats 4000000 in
set_option maxRecDepth 100000 in
theorem s_kept (l : Launch) (D : va_G) (cI cJ cZ cO : ClassId) (sz : Nat) (b0 fl : Nat) (nw : Int32) (n : Nat) (fa : Nat → Nat → Nat) (FX : Nat → Nat → Int32) (FV : Nat → Nat → Nat → Int32) (FJ : Nat → Nat → Nat → Int64) (hn : n ≤ 4) (r0 r1 r2 r3 r4 r5 : Nat) (ov : Nat → Int32) (ol : Option Nat) (cf cl : Nat → Option Nat) (zn : Nat → Int32) (xl : Nat → List Nat) (tag : Nat → Nat) (L : List Nat) (kd : Nat → Bool) (pi : Nat → Nat → Int32) (bd : Nat → Nat) (af : Nat → Option Nat) (bo : Nat → Nat → Int64) (go : Option S4) (gq : List S3) (gw : List S4) (ga : List A6) (tf : Nat → Int32) (a1 a2 : Int32) : Met l yX10_kept (wa yX10_kept cX10_kept 3 (some .int)) ({ frames := 2, cells := 0, slots := 0, locals := 44 }) (va_Pc [.ref b0, .int a1, .int a2] (pw_s D cI cJ cZ cO sz (([(b0, cbC r0 fl nw), (fl, flC cO n fa), (r0, rdC ov (va_rf ol) r1 r2 r3 r4 r5), (r1, chC cf cl zn 0), (r2, chC cf cl zn 1), (r3, chC cf cl zn 2), (r4, chC cf cl zn 3), (r5, tlC cI tf)] ++ va_pl L (pf cJ kd pi bd af bo)) ++ fls cJ fa FX FV FJ n))) (va_Qi (fun (r : Int32) (_ : Unit) => ((True) ∧ r = (xc_kept n FX FV FJ a1 a2).2.2)) (fun (_ : Unit) (t : State) => ∃ (FV2 : Nat → Nat → Nat → Int32) (FJ2 : Nat → Nat → Nat → Int64), (FV2 = (xc_kept n FX FV FJ a1 a2).1 ∧ FJ2 = (xc_kept n FX FV FJ a1 a2).2.1) ∧ pw_t D cI cJ cZ cO (va_A (([(b0, cbC r0 fl nw), (fl, flC cO n fa), (r0, rdC ov (va_rf ol) r1 r2 r3 r4 r5), (r1, chC cf cl zn 0), (r2, chC cf cl zn 1), (r3, chC cf cl zn 2), (r4, chC cf cl zn 3), (r5, tlC cI tf)] ++ va_pl L (pf cJ kd pi bd af bo)) ++ fls cJ fa FX FV FJ n) sz) (([(b0, cbC r0 fl nw), (fl, flC cO n fa), (r0, rdC ov (va_rf ol) r1 r2 r3 r4 r5), (r1, chC cf cl zn 0), (r2, chC cf cl zn 1), (r3, chC cf cl zn 2), (r4, chC cf cl zn 3), (r5, tlC cI tf)] ++ va_pl L (pf cJ kd pi bd af bo)) ++ fls cJ fa FX FV2 FJ2 n) t) (va_A (([(b0, cbC r0 fl nw), (fl, flC cO n fa), (r0, rdC ov (va_rf ol) r1 r2 r3 r4 r5), (r1, chC cf cl zn 0), (r2, chC cf cl zn 1), (r3, chC cf cl zn 2), (r4, chC cf cl zn 3), (r5, tlC cI tf)] ++ va_pl L (pf cJ kd pi bd af bo)) ++ fls cJ fa FX FV FJ n) sz)) 0 0 (va_A (([(b0, cbC r0 fl nw), (fl, flC cO n fa), (r0, rdC ov (va_rf ol) r1 r2 r3 r4 r5), (r1, chC cf cl zn 0), (r2, chC cf cl zn 1), (r3, chC cf cl zn 2), (r4, chC cf cl zn 3), (r5, tlC cI tf)] ++ va_pl L (pf cJ kd pi bd af bo)) ++ fls cJ fa FX FV FJ n) sz) := by
  refine Met.ofW (cc := cX10_kept) (maxL := 3) (ret := (some .int)) (by decide) rfl ?_
  intro p e s m args below meth c s₁ B hml hv
  obtain ⟨rfl, hsz, hP, hK, hD0, hN⟩ := hv
  have hx := B.exec
  have hb := B.bytes
  have hr := B.returns
  have hts := atoms_spec (ws := (wa yX10_kept cX10_kept 3 (some .int))) B.pre
  have ha : ∀ w ∈ wsL_law, w.before _ s = true := fun w h => hts w (List.mem_cons_of_mem _ h)
  have hown : s.vm.findClass RX10 = some m.cls := findClass_of_methodNamed B.named
  have hlocks := B.notSynchronized
  subst hsz
  have hD := hD0.self (sz := s.heap.size)
  generalize hAe : va_A (([(b0, cbC r0 fl nw), (fl, flC cO n fa), (r0, rdC ov (va_rf ol) r1 r2 r3 r4 r5), (r1, chC cf cl zn 0), (r2, chC cf cl zn 1), (r3, chC cf cl zn 2), (r4, chC cf cl zn 3), (r5, tlC cI tf)] ++ va_pl L (pf cJ kd pi bd af bo)) ++ fls cJ fa FX FV FJ n) s.heap.size = A at hD ⊢
  have hA : ∀ q : Nat, s.heap.size ≤ q → A q := fun q h => by rw [← hAe]; exact Or.inr h
  have hS : va_S A s.heap s.heap [] := va_S.rf
  have hP : va_P D vwCl (([(b0, cbC r0 fl nw), (fl, flC cO n fa), (r0, rdC ov (va_rf ol) r1 r2 r3 r4 r5), (r1, chC cf cl zn 0), (r2, chC cf cl zn 1), (r3, chC cf cl zn 2), (r4, chC cf cl zn 3), (r5, tlC cI tf)] ++ va_pl L (pf cJ kd pi bd af bo)) ++ fls cJ fa FX FV FJ n) s.heap := hP
  have hl := lv_entry ([.ref b0, .int a1, .int a2]) (n := 3) (Nat.le_of_ble_eq_true rfl)
  rw [lg_entry_eq]
  generalize (lg_sl ([.ref b0, .int a1, .int a2]) ++ List.replicate (3 - (lg_sl ([.ref b0, .int a1, .int a2])).length) Slot.unset).toArray = ls at hl ⊢
  have hl : lv_has ls 3 [(0, .ref b0), (1, .int a1), (2, .int a2)] := hl
  obtain ⟨QP, hQP⟩ : ∃ y : State → Prop, y = (MQ below (va_Qi (fun (r : Int32) (_ : Unit) => ((True) ∧ r = (xc_kept n FX FV FJ a1 a2).2.2)) (fun (_ : Unit) (t : State) => ∃ (FV2 : Nat → Nat → Nat → Int32) (FJ2 : Nat → Nat → Nat → Int64), (FV2 = (xc_kept n FX FV FJ a1 a2).1 ∧ FJ2 = (xc_kept n FX FV FJ a1 a2).2.1) ∧ pw_t D cI cJ cZ cO A (([(b0, cbC r0 fl nw), (fl, flC cO n fa), (r0, rdC ov (va_rf ol) r1 r2 r3 r4 r5), (r1, chC cf cl zn 0), (r2, chC cf cl zn 1), (r3, chC cf cl zn 2), (r4, chC cf cl zn 3), (r5, tlC cI tf)] ++ va_pl L (pf cJ kd pi bd af bo)) ++ fls cJ fa FX FV2 FJ2 n) t) A) #[(.ref b0 : Value), (.int a1 : Value), (.int a2 : Value)] s 0 0 A) := ⟨_, rfl⟩
  obtain ⟨RES, hRES⟩ : ∃ y, y = (xc_kept n FX FV FJ a1 a2) := ⟨_, rfl⟩
  -- from the entry
  have hE := hRES
  unfold xc_kept at hE
  refine lv_aload_n hx hb dX10_kept_0 rfl (lv_at hl 0 rfl) ?_
  refine lv_iload_n hx hb dX10_kept_1 rfl (lv_at hl 1 rfl) ?_
  have hp0 := perm_idx (X := [(b0, cbC r0 fl nw), (fl, flC cO n fa), (r0, rdC ov (va_rf ol) r1 r2 r3 r4 r5), (r1, chC cf cl zn 0), (r2, chC cf cl zn 1), (r3, chC cf cl zn 2), (r4, chC cf cl zn 3), (r5, tlC cI tf)]) (Y := [(b0, cbC r0 fl nw), (fl, flC cO n fa)] ++ [(r0, rdC ov (va_rf ol) r1 r2 r3 r4 r5), (r1, chC cf cl zn 0), (r2, chC cf cl zn 1), (r3, chC cf cl zn 2), (r4, chC cf cl zn 3), (r5, tlC cI tf)]) (N := 8) [0, 1, 2, 3, 4, 5, 6, 7] rfl rfl (by decide)
  have hPq := hP.perm (pm_Q (cx := [(b0, cbC r0 fl nw), (fl, flC cO n fa)]) (xr := [(r0, rdC ov (va_rf ol) r1 r2 r3 r4 r5), (r1, chC cf cl zn 0), (r2, chC cf cl zn 1), (r3, chC cf cl zn 2), (r4, chC cf cl zn 3), (r5, tlC cI tf)]) (pl := va_pl L (pf cJ kd pi bd af bo)) (R := fls cJ fa FX FV FJ n) hp0)
  have hDq := hD.perm (pm_Q (cx := [(b0, cbC r0 fl nw), (fl, flC cO n fa)]) (xr := [(r0, rdC ov (va_rf ol) r1 r2 r3 r4 r5), (r1, chC cf cl zn 0), (r2, chC cf cl zn 1), (r3, chC cf cl zn 2), (r4, chC cf cl zn 3), (r5, tlC cI tf)]) (pl := va_pl L (pf cJ kd pi bd af bo)) (R := fls cJ fa FX FV FJ n) hp0)
  have hPc := hPq.left
  have hDc := hDq.left
  have hFc := va_freeR hDq hS hA
  refine va_calli (va_runV (As := [.int a1]) (rest := []) ⟨hx, hb, hml, hown, ha⟩ (c_isFlow l D cI cJ cZ cO _ b0 r0 fl nw n (fun i => some (fa i 0)) a1) (cwV 1 ha (gaV kl_X10_33 km_X10_isFlow ks_X10_isFlow kz_X10 kd_X10_isFlow) rfl rfl rfl (by decide +kernel) ⟨Nat.le_of_ble_eq_true rfl, Nat.le_of_ble_eq_true rfl⟩) ⟨pw_blind, va_recv hK hPc (ci := 10) (q0 := 0) rfl rfl, fun U hU hW => ⟨rfl, pw_start hU hW hPc hK hDc hN⟩⟩ rfl rfl hl.1 rfl (lv_room (Nat.le_of_ble_eq_true rfl)) dX10_kept_2 ⟨Nat.le_of_ble_eq_true rfl, Nat.le_of_ble_eq_true rfl⟩) hS (fun q _ h => hFc q h) hFc (fun r_11 u t H1 locs ht hvm hw hB hz1 hk1 hS => ?_)
  obtain ⟨hP1, hK1, hD1⟩ := hB
  rw [ht] at hP1
  obtain ⟨hP, hD⟩ := va_joinR (w1 := [(b0, cbC r0 fl nw), (fl, flC cO n fa)]) hPq hDq hk1 hFc hP1 hD1
  have hP := hP.perm (pm_Qb (xr := [(r0, rdC ov (va_rf ol) r1 r2 r3 r4 r5), (r1, chC cf cl zn 0), (r2, chC cf cl zn 1), (r3, chC cf cl zn 2), (r4, chC cf cl zn 3), (r5, tlC cI tf)]) (w1 := [(b0, cbC r0 fl nw), (fl, flC cO n fa)]) (pl := va_pl L (pf cJ kd pi bd af bo)) (R := fls cJ fa FX FV FJ n))
  have hD := hD.perm (pm_Qb (xr := [(r0, rdC ov (va_rf ol) r1 r2 r3 r4 r5), (r1, chC cf cl zn 0), (r2, chC cf cl zn 1), (r3, chC cf cl zn 2), (r4, chC cf cl zn 3), (r5, tlC cI tf)]) (w1 := [(b0, cbC r0 fl nw), (fl, flC cO n fa)]) (pl := va_pl L (pf cJ kd pi bd af bo)) (R := fls cJ fa FX FV FJ n))
  clear hp0 hPq hDq hPc hDc hP1 hD1
  generalize H1 = H at hP hS ⊢
  have hP : va_P D vwCl (([(r0, rdC ov (va_rf ol) r1 r2 r3 r4 r5), (r1, chC cf cl zn 0), (r2, chC cf cl zn 1), (r3, chC cf cl zn 2), (r4, chC cf cl zn 3), (r5, tlC cI tf), (b0, cbC r0 fl nw), (fl, flC cO n fa)] ++ va_pl L (pf cJ kd pi bd af bo)) ++ fls cJ fa FX FV FJ n) H := hP
  have hD : va_D A (([(r0, rdC ov (va_rf ol) r1 r2 r3 r4 r5), (r1, chC cf cl zn 0), (r2, chC cf cl zn 1), (r3, chC cf cl zn 2), (r4, chC cf cl zn 3), (r5, tlC cI tf), (b0, cbC r0 fl nw), (fl, flC cO n fa)] ++ va_pl L (pf cJ kd pi bd af bo)) ++ fls cJ fa FX FV FJ n) := hD
  have hpo := pm_X (pl := va_pl L (pf cJ kd pi bd af bo)) (R := fls cJ fa FX FV FJ n) (perm_idx (X := [(r0, rdC ov (va_rf ol) r1 r2 r3 r4 r5), (r1, chC cf cl zn 0), (r2, chC cf cl zn 1), (r3, chC cf cl zn 2), (r4, chC cf cl zn 3), (r5, tlC cI tf), (b0, cbC r0 fl nw), (fl, flC cO n fa)]) (Y := [(b0, cbC r0 fl nw), (fl, flC cO n fa), (r0, rdC ov (va_rf ol) r1 r2 r3 r4 r5), (r1, chC cf cl zn 0), (r2, chC cf cl zn 1), (r3, chC cf cl zn 2), (r4, chC cf cl zn 3), (r5, tlC cI tf)]) (N := 8) [6, 7, 0, 1, 2, 3, 4, 5] rfl rfl (by decide))
  have hP := hP.perm hpo
  have hD := hD.perm hpo
  clear hpo
  have hP : va_P D vwCl (([(b0, cbC r0 fl nw), (fl, flC cO n fa), (r0, rdC ov (va_rf ol) r1 r2 r3 r4 r5), (r1, chC cf cl zn 0), (r2, chC cf cl zn 1), (r3, chC cf cl zn 2), (r4, chC cf cl zn 3), (r5, tlC cI tf)] ++ va_pl L (pf cJ kd pi bd af bo)) ++ fls cJ fa FX FV FJ n) H := hP
  have hD : va_D A (([(b0, cbC r0 fl nw), (fl, flC cO n fa), (r0, rdC ov (va_rf ol) r1 r2 r3 r4 r5), (r1, chC cf cl zn 0), (r2, chC cf cl zn 1), (r3, chC cf cl zn 2), (r4, chC cf cl zn 3), (r5, tlC cI tf)] ++ va_pl L (pf cJ kd pi bd af bo)) ++ fls cJ fa FX FV FJ n) := hD
  refine W.widen (k := 0) (n := 0) (Nat.le_of_ble_eq_true rfl) (Nat.le_of_ble_eq_true rfl) ?_
  have hr_11 := hw
  have hE := bd_at hr_11 hE
  refine lv_if_eq (tgt := 24) hx hb dX10_kept_5 (by decide) (fun c_12 => ?_) (fun c_12 => ?_)
  · have hE := hE.trans (if_pos c_12)
    refine lv_iconst (v := (-1)) hx hb dX10_kept_24 (by decide) ?_
    have hP9 : va_P D vwCl (([(b0, cbC r0 fl nw), (fl, flC cO n fa), (r0, rdC ov (va_rf ol) r1 r2 r3 r4 r5), (r1, chC cf cl zn 0), (r2, chC cf cl zn 1), (r3, chC cf cl zn 2), (r4, chC cf cl zn 3), (r5, tlC cI tf)] ++ va_pl L (pf cJ kd pi bd af bo)) ++ fls cJ fa FX FV FJ n) _ := hP
    have hD9 : va_D A (([(b0, cbC r0 fl nw), (fl, flC cO n fa), (r0, rdC ov (va_rf ol) r1 r2 r3 r4 r5), (r1, chC cf cl zn 0), (r2, chC cf cl zn 1), (r3, chC cf cl zn 2), (r4, chC cf cl zn 3), (r5, tlC cI tf)] ++ va_pl L (pf cJ kd pi bd af bo)) ++ fls cJ fa FX FV FJ n) := hD
    exact W.iret (v := (-1)) hx hb hr (fun t ht hW => ⟨⟨(-1), (), rfl, ⟨trivial, (by rw [← hRES, hE])⟩, ⟨FV, FJ, ⟨(by rw [← hRES, hE]), (by rw [← hRES, hE])⟩, by rw [ht]; exact hP9, va_K.moved hW.alike hK, hD9⟩⟩, hS.F ht⟩) hS.2.2 dX10_kept_25
  · have hE := hE.trans (if_neg c_12)
    obtain ⟨j, hj, hxj⟩ := isf_j hn (by rw [← hr_11]; exact c_12)
    subst hxj
    rw [nI_clamp (show j < 2 ^ 31 by omega)] at hE
    refine lv_aload_n hx hb dX10_kept_8 rfl (lv_at hl 0 rfl) ?_
    refine va_get (D := D) (ci := 10) (v := .ref fl) (C := RX10) (T := TX10) (N := 3) hx hb ha inlX10 hown hK hP 0 rfl rfl 1 (by decide) (ha _ kf_X10_18) (fun _ h9 => h9) rfl dX10_kept_9 ?_
    refine lv_iload_n hx hb dX10_kept_12 rfl (lv_at hl 1 rfl) ?_
    refine va_aldq hx hb hK hP 1 3 rfl rfl (vp_in_nI hj (by omega)) dX10_kept_13 ?_
    rw [nI_clamp (show j < 2 ^ 31 by omega)]
    refine W.eq (g2 := F0 m 14 ls [.ref (fa j 0)]) rfl ?_
    obtain ⟨FA_13, FB_14, hfe_15, hfu_16⟩ := fls_at (cJ := cJ) (fa := fa) (FX := FX) (FV := FV) (FJ := FJ) hj
    have hpo := pm_open (X := [(b0, cbC r0 fl nw), (fl, flC cO n fa), (r0, rdC ov (va_rf ol) r1 r2 r3 r4 r5), (r1, chC cf cl zn 0), (r2, chC cf cl zn 1), (r3, chC cf cl zn 2), (r4, chC cf cl zn 3), (r5, tlC cI tf)]) (c := fcs cJ fa FX FV FJ j) (pl := va_pl L (pf cJ kd pi bd af bo)) hfe_15
    have hP := hP.perm hpo
    have hD := hD.perm hpo
    clear hpo
    have hP : va_P D vwCl (([(b0, cbC r0 fl nw), (fl, flC cO n fa), (r0, rdC ov (va_rf ol) r1 r2 r3 r4 r5), (r1, chC cf cl zn 0), (r2, chC cf cl zn 1), (r3, chC cf cl zn 2), (r4, chC cf cl zn 3), (r5, tlC cI tf), ((fa j 0), fwC (fa j 1) (fa j 9)), ((fa j 1), snC (FX j 0) (FX j 1) (FX j 2) (FV j 0) (fa j 2) (fa j 3) (fa j 8)), ((fa j 2), tmC (FV j 1)), ((fa j 3), boC (fa j 4) (fa j 6) (FV j 2)), ((fa j 4), mkC (fa j 5)), ((fa j 5), .inl (cJ, 4, .inr (.inl (FJ j 0)))), ((fa j 6), mkC (fa j 7)), ((fa j 7), .inl (cJ, 4, .inr (.inl (FJ j 1)))), ((fa j 8), cuC (FV j 3)), ((fa j 9), rcC (FX j 0) (FV j 4) (FX j 3) (fa j 10)), ((fa j 10), mkC (fa j 11)), ((fa j 11), .inl (cJ, 4, .inr (.inl (FJ j 2))))] ++ va_pl L (pf cJ kd pi bd af bo)) ++ (FA_13 ++ FB_14)) H := hP
    have hD : va_D A (([(b0, cbC r0 fl nw), (fl, flC cO n fa), (r0, rdC ov (va_rf ol) r1 r2 r3 r4 r5), (r1, chC cf cl zn 0), (r2, chC cf cl zn 1), (r3, chC cf cl zn 2), (r4, chC cf cl zn 3), (r5, tlC cI tf), ((fa j 0), fwC (fa j 1) (fa j 9)), ((fa j 1), snC (FX j 0) (FX j 1) (FX j 2) (FV j 0) (fa j 2) (fa j 3) (fa j 8)), ((fa j 2), tmC (FV j 1)), ((fa j 3), boC (fa j 4) (fa j 6) (FV j 2)), ((fa j 4), mkC (fa j 5)), ((fa j 5), .inl (cJ, 4, .inr (.inl (FJ j 0)))), ((fa j 6), mkC (fa j 7)), ((fa j 7), .inl (cJ, 4, .inr (.inl (FJ j 1)))), ((fa j 8), cuC (FV j 3)), ((fa j 9), rcC (FX j 0) (FV j 4) (FX j 3) (fa j 10)), ((fa j 10), mkC (fa j 11)), ((fa j 11), .inl (cJ, 4, .inr (.inl (FJ j 2))))] ++ va_pl L (pf cJ kd pi bd af bo)) ++ (FA_13 ++ FB_14)) := hD
    generalize hv0 : FV j 0 = sv at hP hD hE
    generalize hv1 : FV j 1 = tv at hP hD hE
    generalize hv2 : FV j 2 = bv at hP hD hE
    generalize hv3 : FV j 3 = cv at hP hD hE
    generalize hv4 : FV j 4 = rv at hP hD hE
    generalize hj0 : FJ j 0 = f at hP hD hE
    generalize hj1 : FJ j 1 = g at hP hD hE
    generalize hj2 : FJ j 2 = kf at hP hD hE
    refine va_getN (D := D) (ci := 3) (v := .ref (fa j 9)) (C := RX3) (T := TX3) (N := 2) hx hb ha inlX3 hown hK hP 8 rfl rfl 1 (by decide) (va_Nw.use rfl (hN.f RX10 48 "CongestionBench$Flow" "receiver" "LCongestionBench$Receiver;" "CongestionBench" (by decide +kernel))) (fun _ h9 => h9) rfl dX10_kept_14 ?_
    refine lv_iload_n hx hb dX10_kept_17 rfl (lv_at hl 2 rfl) ?_
    have hp0 := perm_idx (X := [(b0, cbC r0 fl nw), (fl, flC cO n fa), (r0, rdC ov (va_rf ol) r1 r2 r3 r4 r5), (r1, chC cf cl zn 0), (r2, chC cf cl zn 1), (r3, chC cf cl zn 2), (r4, chC cf cl zn 3), (r5, tlC cI tf), ((fa j 0), fwC (fa j 1) (fa j 9)), ((fa j 1), snC (FX j 0) (FX j 1) (FX j 2) sv (fa j 2) (fa j 3) (fa j 8)), ((fa j 2), tmC tv), ((fa j 3), boC (fa j 4) (fa j 6) bv), ((fa j 4), mkC (fa j 5)), ((fa j 5), .inl (cJ, 4, .inr (.inl f))), ((fa j 6), mkC (fa j 7)), ((fa j 7), .inl (cJ, 4, .inr (.inl g))), ((fa j 8), cuC cv), ((fa j 9), rcC (FX j 0) rv (FX j 3) (fa j 10)), ((fa j 10), mkC (fa j 11)), ((fa j 11), .inl (cJ, 4, .inr (.inl kf)))]) (Y := [((fa j 9), rcC (FX j 0) rv (FX j 3) (fa j 10)), ((fa j 10), mkC (fa j 11)), ((fa j 11), .inl (cJ, 4, .inr (.inl kf)))] ++ [(b0, cbC r0 fl nw), (fl, flC cO n fa), (r0, rdC ov (va_rf ol) r1 r2 r3 r4 r5), (r1, chC cf cl zn 0), (r2, chC cf cl zn 1), (r3, chC cf cl zn 2), (r4, chC cf cl zn 3), (r5, tlC cI tf), ((fa j 0), fwC (fa j 1) (fa j 9)), ((fa j 1), snC (FX j 0) (FX j 1) (FX j 2) sv (fa j 2) (fa j 3) (fa j 8)), ((fa j 2), tmC tv), ((fa j 3), boC (fa j 4) (fa j 6) bv), ((fa j 4), mkC (fa j 5)), ((fa j 5), .inl (cJ, 4, .inr (.inl f))), ((fa j 6), mkC (fa j 7)), ((fa j 7), .inl (cJ, 4, .inr (.inl g))), ((fa j 8), cuC cv)]) (N := 20) [17, 18, 19, 0, 1, 2, 3, 4, 5, 6, 7, 8, 9, 10, 11, 12, 13, 14, 15, 16] rfl rfl (by decide)
    have hPq := hP.perm (pm_Q (cx := [((fa j 9), rcC (FX j 0) rv (FX j 3) (fa j 10)), ((fa j 10), mkC (fa j 11)), ((fa j 11), .inl (cJ, 4, .inr (.inl kf)))]) (xr := [(b0, cbC r0 fl nw), (fl, flC cO n fa), (r0, rdC ov (va_rf ol) r1 r2 r3 r4 r5), (r1, chC cf cl zn 0), (r2, chC cf cl zn 1), (r3, chC cf cl zn 2), (r4, chC cf cl zn 3), (r5, tlC cI tf), ((fa j 0), fwC (fa j 1) (fa j 9)), ((fa j 1), snC (FX j 0) (FX j 1) (FX j 2) sv (fa j 2) (fa j 3) (fa j 8)), ((fa j 2), tmC tv), ((fa j 3), boC (fa j 4) (fa j 6) bv), ((fa j 4), mkC (fa j 5)), ((fa j 5), .inl (cJ, 4, .inr (.inl f))), ((fa j 6), mkC (fa j 7)), ((fa j 7), .inl (cJ, 4, .inr (.inl g))), ((fa j 8), cuC cv)]) (pl := va_pl L (pf cJ kd pi bd af bo)) (R := (FA_13 ++ FB_14)) hp0)
    have hDq := hD.perm (pm_Q (cx := [((fa j 9), rcC (FX j 0) rv (FX j 3) (fa j 10)), ((fa j 10), mkC (fa j 11)), ((fa j 11), .inl (cJ, 4, .inr (.inl kf)))]) (xr := [(b0, cbC r0 fl nw), (fl, flC cO n fa), (r0, rdC ov (va_rf ol) r1 r2 r3 r4 r5), (r1, chC cf cl zn 0), (r2, chC cf cl zn 1), (r3, chC cf cl zn 2), (r4, chC cf cl zn 3), (r5, tlC cI tf), ((fa j 0), fwC (fa j 1) (fa j 9)), ((fa j 1), snC (FX j 0) (FX j 1) (FX j 2) sv (fa j 2) (fa j 3) (fa j 8)), ((fa j 2), tmC tv), ((fa j 3), boC (fa j 4) (fa j 6) bv), ((fa j 4), mkC (fa j 5)), ((fa j 5), .inl (cJ, 4, .inr (.inl f))), ((fa j 6), mkC (fa j 7)), ((fa j 7), .inl (cJ, 4, .inr (.inl g))), ((fa j 8), cuC cv)]) (pl := va_pl L (pf cJ kd pi bd af bo)) (R := (FA_13 ++ FB_14)) hp0)
    have hPc := hPq.left
    have hDc := hDq.left
    have hFc := va_freeR hDq hS hA
    refine va_calli (va_runV (As := [.int a2]) (rest := []) ⟨hx, hb, hml, hown, ha⟩ (s_leastKept l D cI cJ cZ cO _ (fa j 9) (fa j 10) (fa j 11) (FX j 0) (FX j 3) rv kf a2) (cwV 1 ha (gaV kl_X10_95 km_X6_leastKept ks_X6_leastKept kz_X6 kd_X6_leastKept) rfl rfl rfl (by decide +kernel) ⟨Nat.le_of_ble_eq_true rfl, Nat.le_of_ble_eq_true rfl⟩) ⟨pw_blind, va_recv hK hPc (ci := 6) (q0 := 0) rfl rfl, fun U hU hW => ⟨rfl, pw_start hU hW hPc hK hDc hN⟩⟩ rfl rfl hl.1 rfl (lv_room (Nat.le_of_ble_eq_true rfl)) dX10_kept_18 ⟨Nat.le_of_ble_eq_true rfl, Nat.le_of_ble_eq_true rfl⟩) hS (fun q _ h => hFc q h) hFc (fun r_17 u t H1 locs ht hvm hw hB hz1 hk1 hS => ?_)
    obtain ⟨rv, kf, ⟨hX0, hX1⟩, hP1, hK1, hD1⟩ := hB
    have hE := bd_at rfl hE
    have hE := bd_at hX0 hE
    have hE := bd_at hX1 hE
    have hE := bd_at hw.2 hE
    rw [ht] at hP1
    obtain ⟨hP, hD⟩ := va_joinR (w1 := [((fa j 9), rcC (FX j 0) rv (FX j 3) (fa j 10)), ((fa j 10), mkC (fa j 11)), ((fa j 11), .inl (cJ, 4, .inr (.inl kf)))]) hPq hDq hk1 hFc hP1 hD1
    have hP := hP.perm (pm_Qb (xr := [(b0, cbC r0 fl nw), (fl, flC cO n fa), (r0, rdC ov (va_rf ol) r1 r2 r3 r4 r5), (r1, chC cf cl zn 0), (r2, chC cf cl zn 1), (r3, chC cf cl zn 2), (r4, chC cf cl zn 3), (r5, tlC cI tf), ((fa j 0), fwC (fa j 1) (fa j 9)), ((fa j 1), snC (FX j 0) (FX j 1) (FX j 2) sv (fa j 2) (fa j 3) (fa j 8)), ((fa j 2), tmC tv), ((fa j 3), boC (fa j 4) (fa j 6) bv), ((fa j 4), mkC (fa j 5)), ((fa j 5), .inl (cJ, 4, .inr (.inl f))), ((fa j 6), mkC (fa j 7)), ((fa j 7), .inl (cJ, 4, .inr (.inl g))), ((fa j 8), cuC cv)]) (w1 := [((fa j 9), rcC (FX j 0) rv (FX j 3) (fa j 10)), ((fa j 10), mkC (fa j 11)), ((fa j 11), .inl (cJ, 4, .inr (.inl kf)))]) (pl := va_pl L (pf cJ kd pi bd af bo)) (R := (FA_13 ++ FB_14)))
    have hD := hD.perm (pm_Qb (xr := [(b0, cbC r0 fl nw), (fl, flC cO n fa), (r0, rdC ov (va_rf ol) r1 r2 r3 r4 r5), (r1, chC cf cl zn 0), (r2, chC cf cl zn 1), (r3, chC cf cl zn 2), (r4, chC cf cl zn 3), (r5, tlC cI tf), ((fa j 0), fwC (fa j 1) (fa j 9)), ((fa j 1), snC (FX j 0) (FX j 1) (FX j 2) sv (fa j 2) (fa j 3) (fa j 8)), ((fa j 2), tmC tv), ((fa j 3), boC (fa j 4) (fa j 6) bv), ((fa j 4), mkC (fa j 5)), ((fa j 5), .inl (cJ, 4, .inr (.inl f))), ((fa j 6), mkC (fa j 7)), ((fa j 7), .inl (cJ, 4, .inr (.inl g))), ((fa j 8), cuC cv)]) (w1 := [((fa j 9), rcC (FX j 0) rv (FX j 3) (fa j 10)), ((fa j 10), mkC (fa j 11)), ((fa j 11), .inl (cJ, 4, .inr (.inl kf)))]) (pl := va_pl L (pf cJ kd pi bd af bo)) (R := (FA_13 ++ FB_14)))
    clear hp0 hPq hDq hPc hDc hP1 hD1
    generalize H1 = H at hP hS ⊢
    have hP : va_P D vwCl (([(b0, cbC r0 fl nw), (fl, flC cO n fa), (r0, rdC ov (va_rf ol) r1 r2 r3 r4 r5), (r1, chC cf cl zn 0), (r2, chC cf cl zn 1), (r3, chC cf cl zn 2), (r4, chC cf cl zn 3), (r5, tlC cI tf), ((fa j 0), fwC (fa j 1) (fa j 9)), ((fa j 1), snC (FX j 0) (FX j 1) (FX j 2) sv (fa j 2) (fa j 3) (fa j 8)), ((fa j 2), tmC tv), ((fa j 3), boC (fa j 4) (fa j 6) bv), ((fa j 4), mkC (fa j 5)), ((fa j 5), .inl (cJ, 4, .inr (.inl f))), ((fa j 6), mkC (fa j 7)), ((fa j 7), .inl (cJ, 4, .inr (.inl g))), ((fa j 8), cuC cv), ((fa j 9), rcC (FX j 0) rv (FX j 3) (fa j 10)), ((fa j 10), mkC (fa j 11)), ((fa j 11), .inl (cJ, 4, .inr (.inl kf)))] ++ va_pl L (pf cJ kd pi bd af bo)) ++ (FA_13 ++ FB_14)) H := hP
    have hD : va_D A (([(b0, cbC r0 fl nw), (fl, flC cO n fa), (r0, rdC ov (va_rf ol) r1 r2 r3 r4 r5), (r1, chC cf cl zn 0), (r2, chC cf cl zn 1), (r3, chC cf cl zn 2), (r4, chC cf cl zn 3), (r5, tlC cI tf), ((fa j 0), fwC (fa j 1) (fa j 9)), ((fa j 1), snC (FX j 0) (FX j 1) (FX j 2) sv (fa j 2) (fa j 3) (fa j 8)), ((fa j 2), tmC tv), ((fa j 3), boC (fa j 4) (fa j 6) bv), ((fa j 4), mkC (fa j 5)), ((fa j 5), .inl (cJ, 4, .inr (.inl f))), ((fa j 6), mkC (fa j 7)), ((fa j 7), .inl (cJ, 4, .inr (.inl g))), ((fa j 8), cuC cv), ((fa j 9), rcC (FX j 0) rv (FX j 3) (fa j 10)), ((fa j 10), mkC (fa j 11)), ((fa j 11), .inl (cJ, 4, .inr (.inl kf)))] ++ va_pl L (pf cJ kd pi bd af bo)) ++ (FA_13 ++ FB_14)) := hD
    refine W.widen (k := 0) (n := 0) (Nat.le_of_ble_eq_true rfl) (Nat.le_of_ble_eq_true rfl) ?_
    have hr_17 := hw.1
    refine lv_goto (tgt := 25) hx hb dX10_kept_21 (by decide) ?_
    have hpo := pm_close (X := [(b0, cbC r0 fl nw), (fl, flC cO n fa), (r0, rdC ov (va_rf ol) r1 r2 r3 r4 r5), (r1, chC cf cl zn 0), (r2, chC cf cl zn 1), (r3, chC cf cl zn 2), (r4, chC cf cl zn 3), (r5, tlC cI tf)]) (c := [((fa j 0), fwC (fa j 1) (fa j 9)), ((fa j 1), snC (FX j 0) (FX j 1) (FX j 2) sv (fa j 2) (fa j 3) (fa j 8)), ((fa j 2), tmC tv), ((fa j 3), boC (fa j 4) (fa j 6) bv), ((fa j 4), mkC (fa j 5)), ((fa j 5), .inl (cJ, 4, .inr (.inl f))), ((fa j 6), mkC (fa j 7)), ((fa j 7), .inl (cJ, 4, .inr (.inl g))), ((fa j 8), cuC cv), ((fa j 9), rcC (FX j 0) rv (FX j 3) (fa j 10)), ((fa j 10), mkC (fa j 11)), ((fa j 11), .inl (cJ, 4, .inr (.inl kf)))]) (pl := va_pl L (pf cJ kd pi bd af bo)) (fls_up (sv := sv) (tv := tv) (bv := bv) (cv := cv) (rv := rv) (f := f) (g := g) (kf := kf) hfu_16) (perm_idx (X := [(b0, cbC r0 fl nw), (fl, flC cO n fa), (r0, rdC ov (va_rf ol) r1 r2 r3 r4 r5), (r1, chC cf cl zn 0), (r2, chC cf cl zn 1), (r3, chC cf cl zn 2), (r4, chC cf cl zn 3), (r5, tlC cI tf), ((fa j 0), fwC (fa j 1) (fa j 9)), ((fa j 1), snC (FX j 0) (FX j 1) (FX j 2) sv (fa j 2) (fa j 3) (fa j 8)), ((fa j 2), tmC tv), ((fa j 3), boC (fa j 4) (fa j 6) bv), ((fa j 4), mkC (fa j 5)), ((fa j 5), .inl (cJ, 4, .inr (.inl f))), ((fa j 6), mkC (fa j 7)), ((fa j 7), .inl (cJ, 4, .inr (.inl g))), ((fa j 8), cuC cv), ((fa j 9), rcC (FX j 0) rv (FX j 3) (fa j 10)), ((fa j 10), mkC (fa j 11)), ((fa j 11), .inl (cJ, 4, .inr (.inl kf)))]) (Y := [(b0, cbC r0 fl nw), (fl, flC cO n fa), (r0, rdC ov (va_rf ol) r1 r2 r3 r4 r5), (r1, chC cf cl zn 0), (r2, chC cf cl zn 1), (r3, chC cf cl zn 2), (r4, chC cf cl zn 3), (r5, tlC cI tf), ((fa j 0), fwC (fa j 1) (fa j 9)), ((fa j 1), snC (FX j 0) (FX j 1) (FX j 2) sv (fa j 2) (fa j 3) (fa j 8)), ((fa j 2), tmC tv), ((fa j 3), boC (fa j 4) (fa j 6) bv), ((fa j 4), mkC (fa j 5)), ((fa j 5), .inl (cJ, 4, .inr (.inl f))), ((fa j 6), mkC (fa j 7)), ((fa j 7), .inl (cJ, 4, .inr (.inl g))), ((fa j 8), cuC cv), ((fa j 9), rcC (FX j 0) rv (FX j 3) (fa j 10)), ((fa j 10), mkC (fa j 11)), ((fa j 11), .inl (cJ, 4, .inr (.inl kf)))]) (N := 20) [0, 1, 2, 3, 4, 5, 6, 7, 8, 9, 10, 11, 12, 13, 14, 15, 16, 17, 18, 19] rfl rfl (by decide))
    have hP := hP.perm hpo
    have hD := hD.perm hpo
    clear hpo hfu_16
    have hP : va_P D vwCl (([(b0, cbC r0 fl nw), (fl, flC cO n fa), (r0, rdC ov (va_rf ol) r1 r2 r3 r4 r5), (r1, chC cf cl zn 0), (r2, chC cf cl zn 1), (r3, chC cf cl zn 2), (r4, chC cf cl zn 3), (r5, tlC cI tf)] ++ va_pl L (pf cJ kd pi bd af bo)) ++ fls cJ fa FX (va_up FV j (fpk sv tv bv cv rv)) (va_up FJ j (fpj f g kf)) n) H := hP
    have hD : va_D A (([(b0, cbC r0 fl nw), (fl, flC cO n fa), (r0, rdC ov (va_rf ol) r1 r2 r3 r4 r5), (r1, chC cf cl zn 0), (r2, chC cf cl zn 1), (r3, chC cf cl zn 2), (r4, chC cf cl zn 3), (r5, tlC cI tf)] ++ va_pl L (pf cJ kd pi bd af bo)) ++ fls cJ fa FX (va_up FV j (fpk sv tv bv cv rv)) (va_up FJ j (fpj f g kf)) n) := hD
    generalize hfv : va_up FV j (fpk sv tv bv cv rv) = FV at hP hD
    generalize hfj : va_up FJ j (fpj f g kf) = FJ at hP hD
    have hE := bs_at hfv hE
    have hE := bs_at hfj hE
    clear hfv hfj
    have hP9 : va_P D vwCl (([(b0, cbC r0 fl nw), (fl, flC cO n fa), (r0, rdC ov (va_rf ol) r1 r2 r3 r4 r5), (r1, chC cf cl zn 0), (r2, chC cf cl zn 1), (r3, chC cf cl zn 2), (r4, chC cf cl zn 3), (r5, tlC cI tf)] ++ va_pl L (pf cJ kd pi bd af bo)) ++ fls cJ fa FX FV FJ n) _ := hP
    have hD9 : va_D A (([(b0, cbC r0 fl nw), (fl, flC cO n fa), (r0, rdC ov (va_rf ol) r1 r2 r3 r4 r5), (r1, chC cf cl zn 0), (r2, chC cf cl zn 1), (r3, chC cf cl zn 2), (r4, chC cf cl zn 3), (r5, tlC cI tf)] ++ va_pl L (pf cJ kd pi bd af bo)) ++ fls cJ fa FX FV FJ n) := hD
    exact W.iret (v := r_17) hx hb hr (fun t ht hW => ⟨⟨r_17, (), rfl, ⟨trivial, (by rw [← hRES, hE])⟩, ⟨FV, FJ, ⟨(by rw [← hRES, hE]), (by rw [← hRES, hE])⟩, by rw [ht]; exact hP9, va_K.moved hW.alike hK, hD9⟩⟩, hS.F ht⟩) hS.2.2 dX10_kept_25

def xc_most (n : Nat) (FX : Nat → Nat → Int32) (FV : FVt) (FJ : FJt) (a1 : Int32) : FVt × FJt × Int32 := bd (isf a1 n) (fun r1 => if r1 = 0 then (FV, FJ, (0 : Int32)) else bd (FV a1.toNatClampNeg 0 7) (fun r2 => bd (va_up FV a1.toNatClampNeg (fpk (FV a1.toNatClampNeg 0) (FV a1.toNatClampNeg 1) (FV a1.toNatClampNeg 2) (FV a1.toNatClampNeg 3) (FV a1.toNatClampNeg 4))) (fun FV => bd (va_up FJ a1.toNatClampNeg (fpj (FJ a1.toNatClampNeg 0) (FJ a1.toNatClampNeg 1) (FJ a1.toNatClampNeg 2))) (fun FJ => (FV, FJ, r2)))))
set_option maxHeartbeats 4000000 in
set_option maxRecDepth 100000 in
theorem s_most (l : Launch) (D : va_G) (cI cJ cZ cO : ClassId) (sz : Nat) (b0 fl : Nat) (nw : Int32) (n : Nat) (fa : Nat → Nat → Nat) (FX : Nat → Nat → Int32) (FV : Nat → Nat → Nat → Int32) (FJ : Nat → Nat → Nat → Int64) (hn : n ≤ 4) (r0 r1 r2 r3 r4 r5 : Nat) (ov : Nat → Int32) (ol : Option Nat) (cf cl : Nat → Option Nat) (zn : Nat → Int32) (xl : Nat → List Nat) (tag : Nat → Nat) (L : List Nat) (kd : Nat → Bool) (pi : Nat → Nat → Int32) (bd : Nat → Nat) (af : Nat → Option Nat) (bo : Nat → Nat → Int64) (go : Option S4) (gq : List S3) (gw : List S4) (ga : List A6) (tf : Nat → Int32) (a1 : Int32) : Met l yX10_most (wa yX10_most cX10_most 2 (some .int)) ({ frames := 1, cells := 0, slots := 0, locals := 21 }) (va_Pc [.ref b0, .int a1] (pw_s D cI cJ cZ cO sz (([(b0, cbC r0 fl nw), (fl, flC cO n fa), (r0, rdC ov (va_rf ol) r1 r2 r3 r4 r5), (r1, chC cf cl zn 0), (r2, chC cf cl zn 1), (r3, chC cf cl zn 2), (r4, chC cf cl zn 3), (r5, tlC cI tf)] ++ va_pl L (pf cJ kd pi bd af bo)) ++ fls cJ fa FX FV FJ n))) (va_Qi (fun (r : Int32) (_ : Unit) => ((True) ∧ r = (xc_most n FX FV FJ a1).2.2)) (fun (_ : Unit) (t : State) => ∃ (FV2 : Nat → Nat → Nat → Int32) (FJ2 : Nat → Nat → Nat → Int64), (FV2 = (xc_most n FX FV FJ a1).1 ∧ FJ2 = (xc_most n FX FV FJ a1).2.1) ∧ pw_t D cI cJ cZ cO (va_A (([(b0, cbC r0 fl nw), (fl, flC cO n fa), (r0, rdC ov (va_rf ol) r1 r2 r3 r4 r5), (r1, chC cf cl zn 0), (r2, chC cf cl zn 1), (r3, chC cf cl zn 2), (r4, chC cf cl zn 3), (r5, tlC cI tf)] ++ va_pl L (pf cJ kd pi bd af bo)) ++ fls cJ fa FX FV FJ n) sz) (([(b0, cbC r0 fl nw), (fl, flC cO n fa), (r0, rdC ov (va_rf ol) r1 r2 r3 r4 r5), (r1, chC cf cl zn 0), (r2, chC cf cl zn 1), (r3, chC cf cl zn 2), (r4, chC cf cl zn 3), (r5, tlC cI tf)] ++ va_pl L (pf cJ kd pi bd af bo)) ++ fls cJ fa FX FV2 FJ2 n) t) (va_A (([(b0, cbC r0 fl nw), (fl, flC cO n fa), (r0, rdC ov (va_rf ol) r1 r2 r3 r4 r5), (r1, chC cf cl zn 0), (r2, chC cf cl zn 1), (r3, chC cf cl zn 2), (r4, chC cf cl zn 3), (r5, tlC cI tf)] ++ va_pl L (pf cJ kd pi bd af bo)) ++ fls cJ fa FX FV FJ n) sz)) 0 0 (va_A (([(b0, cbC r0 fl nw), (fl, flC cO n fa), (r0, rdC ov (va_rf ol) r1 r2 r3 r4 r5), (r1, chC cf cl zn 0), (r2, chC cf cl zn 1), (r3, chC cf cl zn 2), (r4, chC cf cl zn 3), (r5, tlC cI tf)] ++ va_pl L (pf cJ kd pi bd af bo)) ++ fls cJ fa FX FV FJ n) sz) := by
  refine Met.ofW (cc := cX10_most) (maxL := 2) (ret := (some .int)) (by decide) rfl ?_
  intro p e s m args below meth c s₁ B hml hv
  obtain ⟨rfl, hsz, hP, hK, hD0, hN⟩ := hv
  have hx := B.exec
  have hb := B.bytes
  have hr := B.returns
  have hts := atoms_spec (ws := (wa yX10_most cX10_most 2 (some .int))) B.pre
  have ha : ∀ w ∈ wsL_law, w.before _ s = true := fun w h => hts w (List.mem_cons_of_mem _ h)
  have hown : s.vm.findClass RX10 = some m.cls := findClass_of_methodNamed B.named
  have hlocks := B.notSynchronized
  subst hsz
  have hD := hD0.self (sz := s.heap.size)
  generalize hAe : va_A (([(b0, cbC r0 fl nw), (fl, flC cO n fa), (r0, rdC ov (va_rf ol) r1 r2 r3 r4 r5), (r1, chC cf cl zn 0), (r2, chC cf cl zn 1), (r3, chC cf cl zn 2), (r4, chC cf cl zn 3), (r5, tlC cI tf)] ++ va_pl L (pf cJ kd pi bd af bo)) ++ fls cJ fa FX FV FJ n) s.heap.size = A at hD ⊢
  have hA : ∀ q : Nat, s.heap.size ≤ q → A q := fun q h => by rw [← hAe]; exact Or.inr h
  have hS : va_S A s.heap s.heap [] := va_S.rf
  have hP : va_P D vwCl (([(b0, cbC r0 fl nw), (fl, flC cO n fa), (r0, rdC ov (va_rf ol) r1 r2 r3 r4 r5), (r1, chC cf cl zn 0), (r2, chC cf cl zn 1), (r3, chC cf cl zn 2), (r4, chC cf cl zn 3), (r5, tlC cI tf)] ++ va_pl L (pf cJ kd pi bd af bo)) ++ fls cJ fa FX FV FJ n) s.heap := hP
  have hl := lv_entry ([.ref b0, .int a1]) (n := 2) (Nat.le_of_ble_eq_true rfl)
  rw [lg_entry_eq]
  generalize (lg_sl ([.ref b0, .int a1]) ++ List.replicate (2 - (lg_sl ([.ref b0, .int a1])).length) Slot.unset).toArray = ls at hl ⊢
  have hl : lv_has ls 2 [(0, .ref b0), (1, .int a1)] := hl
  obtain ⟨QP, hQP⟩ : ∃ y : State → Prop, y = (MQ below (va_Qi (fun (r : Int32) (_ : Unit) => ((True) ∧ r = (xc_most n FX FV FJ a1).2.2)) (fun (_ : Unit) (t : State) => ∃ (FV2 : Nat → Nat → Nat → Int32) (FJ2 : Nat → Nat → Nat → Int64), (FV2 = (xc_most n FX FV FJ a1).1 ∧ FJ2 = (xc_most n FX FV FJ a1).2.1) ∧ pw_t D cI cJ cZ cO A (([(b0, cbC r0 fl nw), (fl, flC cO n fa), (r0, rdC ov (va_rf ol) r1 r2 r3 r4 r5), (r1, chC cf cl zn 0), (r2, chC cf cl zn 1), (r3, chC cf cl zn 2), (r4, chC cf cl zn 3), (r5, tlC cI tf)] ++ va_pl L (pf cJ kd pi bd af bo)) ++ fls cJ fa FX FV2 FJ2 n) t) A) #[(.ref b0 : Value), (.int a1 : Value)] s 0 0 A) := ⟨_, rfl⟩
  obtain ⟨RES, hRES⟩ : ∃ y, y = (xc_most n FX FV FJ a1) := ⟨_, rfl⟩
  -- from the entry
  have hE := hRES
  unfold xc_most at hE
  refine lv_aload_n hx hb dX10_most_0 rfl (lv_at hl 0 rfl) ?_
  refine lv_iload_n hx hb dX10_most_1 rfl (lv_at hl 1 rfl) ?_
  have hp0 := perm_idx (X := [(b0, cbC r0 fl nw), (fl, flC cO n fa), (r0, rdC ov (va_rf ol) r1 r2 r3 r4 r5), (r1, chC cf cl zn 0), (r2, chC cf cl zn 1), (r3, chC cf cl zn 2), (r4, chC cf cl zn 3), (r5, tlC cI tf)]) (Y := [(b0, cbC r0 fl nw), (fl, flC cO n fa)] ++ [(r0, rdC ov (va_rf ol) r1 r2 r3 r4 r5), (r1, chC cf cl zn 0), (r2, chC cf cl zn 1), (r3, chC cf cl zn 2), (r4, chC cf cl zn 3), (r5, tlC cI tf)]) (N := 8) [0, 1, 2, 3, 4, 5, 6, 7] rfl rfl (by decide)
  have hPq := hP.perm (pm_Q (cx := [(b0, cbC r0 fl nw), (fl, flC cO n fa)]) (xr := [(r0, rdC ov (va_rf ol) r1 r2 r3 r4 r5), (r1, chC cf cl zn 0), (r2, chC cf cl zn 1), (r3, chC cf cl zn 2), (r4, chC cf cl zn 3), (r5, tlC cI tf)]) (pl := va_pl L (pf cJ kd pi bd af bo)) (R := fls cJ fa FX FV FJ n) hp0)
  have hDq := hD.perm (pm_Q (cx := [(b0, cbC r0 fl nw), (fl, flC cO n fa)]) (xr := [(r0, rdC ov (va_rf ol) r1 r2 r3 r4 r5), (r1, chC cf cl zn 0), (r2, chC cf cl zn 1), (r3, chC cf cl zn 2), (r4, chC cf cl zn 3), (r5, tlC cI tf)]) (pl := va_pl L (pf cJ kd pi bd af bo)) (R := fls cJ fa FX FV FJ n) hp0)
  have hPc := hPq.left
  have hDc := hDq.left
  have hFc := va_freeR hDq hS hA
  refine va_calli (va_runV (As := [.int a1]) (rest := []) ⟨hx, hb, hml, hown, ha⟩ (c_isFlow l D cI cJ cZ cO _ b0 r0 fl nw n (fun i => some (fa i 0)) a1) (cwV 1 ha (gaV kl_X10_33 km_X10_isFlow ks_X10_isFlow kz_X10 kd_X10_isFlow) rfl rfl rfl (by decide +kernel) ⟨Nat.le_of_ble_eq_true rfl, Nat.le_of_ble_eq_true rfl⟩) ⟨pw_blind, va_recv hK hPc (ci := 10) (q0 := 0) rfl rfl, fun U hU hW => ⟨rfl, pw_start hU hW hPc hK hDc hN⟩⟩ rfl rfl hl.1 rfl (lv_room (Nat.le_of_ble_eq_true rfl)) dX10_most_2 ⟨Nat.le_of_ble_eq_true rfl, Nat.le_of_ble_eq_true rfl⟩) hS (fun q _ h => hFc q h) hFc (fun r_8 u t H1 locs ht hvm hw hB hz1 hk1 hS => ?_)
  obtain ⟨hP1, hK1, hD1⟩ := hB
  rw [ht] at hP1
  obtain ⟨hP, hD⟩ := va_joinR (w1 := [(b0, cbC r0 fl nw), (fl, flC cO n fa)]) hPq hDq hk1 hFc hP1 hD1
  have hP := hP.perm (pm_Qb (xr := [(r0, rdC ov (va_rf ol) r1 r2 r3 r4 r5), (r1, chC cf cl zn 0), (r2, chC cf cl zn 1), (r3, chC cf cl zn 2), (r4, chC cf cl zn 3), (r5, tlC cI tf)]) (w1 := [(b0, cbC r0 fl nw), (fl, flC cO n fa)]) (pl := va_pl L (pf cJ kd pi bd af bo)) (R := fls cJ fa FX FV FJ n))
  have hD := hD.perm (pm_Qb (xr := [(r0, rdC ov (va_rf ol) r1 r2 r3 r4 r5), (r1, chC cf cl zn 0), (r2, chC cf cl zn 1), (r3, chC cf cl zn 2), (r4, chC cf cl zn 3), (r5, tlC cI tf)]) (w1 := [(b0, cbC r0 fl nw), (fl, flC cO n fa)]) (pl := va_pl L (pf cJ kd pi bd af bo)) (R := fls cJ fa FX FV FJ n))
  clear hp0 hPq hDq hPc hDc hP1 hD1
  generalize H1 = H at hP hS ⊢
  have hP : va_P D vwCl (([(r0, rdC ov (va_rf ol) r1 r2 r3 r4 r5), (r1, chC cf cl zn 0), (r2, chC cf cl zn 1), (r3, chC cf cl zn 2), (r4, chC cf cl zn 3), (r5, tlC cI tf), (b0, cbC r0 fl nw), (fl, flC cO n fa)] ++ va_pl L (pf cJ kd pi bd af bo)) ++ fls cJ fa FX FV FJ n) H := hP
  have hD : va_D A (([(r0, rdC ov (va_rf ol) r1 r2 r3 r4 r5), (r1, chC cf cl zn 0), (r2, chC cf cl zn 1), (r3, chC cf cl zn 2), (r4, chC cf cl zn 3), (r5, tlC cI tf), (b0, cbC r0 fl nw), (fl, flC cO n fa)] ++ va_pl L (pf cJ kd pi bd af bo)) ++ fls cJ fa FX FV FJ n) := hD
  have hpo := pm_X (pl := va_pl L (pf cJ kd pi bd af bo)) (R := fls cJ fa FX FV FJ n) (perm_idx (X := [(r0, rdC ov (va_rf ol) r1 r2 r3 r4 r5), (r1, chC cf cl zn 0), (r2, chC cf cl zn 1), (r3, chC cf cl zn 2), (r4, chC cf cl zn 3), (r5, tlC cI tf), (b0, cbC r0 fl nw), (fl, flC cO n fa)]) (Y := [(b0, cbC r0 fl nw), (fl, flC cO n fa), (r0, rdC ov (va_rf ol) r1 r2 r3 r4 r5), (r1, chC cf cl zn 0), (r2, chC cf cl zn 1), (r3, chC cf cl zn 2), (r4, chC cf cl zn 3), (r5, tlC cI tf)]) (N := 8) [6, 7, 0, 1, 2, 3, 4, 5] rfl rfl (by decide))
  have hP := hP.perm hpo
  have hD := hD.perm hpo
  clear hpo
  have hP : va_P D vwCl (([(b0, cbC r0 fl nw), (fl, flC cO n fa), (r0, rdC ov (va_rf ol) r1 r2 r3 r4 r5), (r1, chC cf cl zn 0), (r2, chC cf cl zn 1), (r3, chC cf cl zn 2), (r4, chC cf cl zn 3), (r5, tlC cI tf)] ++ va_pl L (pf cJ kd pi bd af bo)) ++ fls cJ fa FX FV FJ n) H := hP
  have hD : va_D A (([(b0, cbC r0 fl nw), (fl, flC cO n fa), (r0, rdC ov (va_rf ol) r1 r2 r3 r4 r5), (r1, chC cf cl zn 0), (r2, chC cf cl zn 1), (r3, chC cf cl zn 2), (r4, chC cf cl zn 3), (r5, tlC cI tf)] ++ va_pl L (pf cJ kd pi bd af bo)) ++ fls cJ fa FX FV FJ n) := hD
  refine W.widen (k := 0) (n := 0) (Nat.le_of_ble_eq_true rfl) (Nat.le_of_ble_eq_true rfl) ?_
  have hr_8 := hw
  have hE := bd_at hr_8 hE
  refine lv_if_eq (tgt := 23) hx hb dX10_most_5 (by decide) (fun c_9 => ?_) (fun c_9 => ?_)
  · have hE := hE.trans (if_pos c_9)
    refine lv_iconst (v := 0) hx hb dX10_most_23 (by decide) ?_
    have hP9 : va_P D vwCl (([(b0, cbC r0 fl nw), (fl, flC cO n fa), (r0, rdC ov (va_rf ol) r1 r2 r3 r4 r5), (r1, chC cf cl zn 0), (r2, chC cf cl zn 1), (r3, chC cf cl zn 2), (r4, chC cf cl zn 3), (r5, tlC cI tf)] ++ va_pl L (pf cJ kd pi bd af bo)) ++ fls cJ fa FX FV FJ n) _ := hP
    have hD9 : va_D A (([(b0, cbC r0 fl nw), (fl, flC cO n fa), (r0, rdC ov (va_rf ol) r1 r2 r3 r4 r5), (r1, chC cf cl zn 0), (r2, chC cf cl zn 1), (r3, chC cf cl zn 2), (r4, chC cf cl zn 3), (r5, tlC cI tf)] ++ va_pl L (pf cJ kd pi bd af bo)) ++ fls cJ fa FX FV FJ n) := hD
    exact W.iret (v := 0) hx hb hr (fun t ht hW => ⟨⟨0, (), rfl, ⟨trivial, (by rw [← hRES, hE])⟩, ⟨FV, FJ, ⟨(by rw [← hRES, hE]), (by rw [← hRES, hE])⟩, by rw [ht]; exact hP9, va_K.moved hW.alike hK, hD9⟩⟩, hS.F ht⟩) hS.2.2 dX10_most_24
  · have hE := hE.trans (if_neg c_9)
    obtain ⟨j, hj, hxj⟩ := isf_j hn (by rw [← hr_8]; exact c_9)
    subst hxj
    rw [nI_clamp (show j < 2 ^ 31 by omega)] at hE
    refine lv_aload_n hx hb dX10_most_8 rfl (lv_at hl 0 rfl) ?_
    refine va_get (D := D) (ci := 10) (v := .ref fl) (C := RX10) (T := TX10) (N := 3) hx hb ha inlX10 hown hK hP 0 rfl rfl 1 (by decide) (ha _ kf_X10_18) (fun _ h9 => h9) rfl dX10_most_9 ?_
    refine lv_iload_n hx hb dX10_most_12 rfl (lv_at hl 1 rfl) ?_
    refine va_aldq hx hb hK hP 1 3 rfl rfl (vp_in_nI hj (by omega)) dX10_most_13 ?_
    rw [nI_clamp (show j < 2 ^ 31 by omega)]
    refine W.eq (g2 := F0 m 14 ls [.ref (fa j 0)]) rfl ?_
    obtain ⟨FA_10, FB_11, hfe_12, hfu_13⟩ := fls_at (cJ := cJ) (fa := fa) (FX := FX) (FV := FV) (FJ := FJ) hj
    have hpo := pm_open (X := [(b0, cbC r0 fl nw), (fl, flC cO n fa), (r0, rdC ov (va_rf ol) r1 r2 r3 r4 r5), (r1, chC cf cl zn 0), (r2, chC cf cl zn 1), (r3, chC cf cl zn 2), (r4, chC cf cl zn 3), (r5, tlC cI tf)]) (c := fcs cJ fa FX FV FJ j) (pl := va_pl L (pf cJ kd pi bd af bo)) hfe_12
    have hP := hP.perm hpo
    have hD := hD.perm hpo
    clear hpo
    have hP : va_P D vwCl (([(b0, cbC r0 fl nw), (fl, flC cO n fa), (r0, rdC ov (va_rf ol) r1 r2 r3 r4 r5), (r1, chC cf cl zn 0), (r2, chC cf cl zn 1), (r3, chC cf cl zn 2), (r4, chC cf cl zn 3), (r5, tlC cI tf), ((fa j 0), fwC (fa j 1) (fa j 9)), ((fa j 1), snC (FX j 0) (FX j 1) (FX j 2) (FV j 0) (fa j 2) (fa j 3) (fa j 8)), ((fa j 2), tmC (FV j 1)), ((fa j 3), boC (fa j 4) (fa j 6) (FV j 2)), ((fa j 4), mkC (fa j 5)), ((fa j 5), .inl (cJ, 4, .inr (.inl (FJ j 0)))), ((fa j 6), mkC (fa j 7)), ((fa j 7), .inl (cJ, 4, .inr (.inl (FJ j 1)))), ((fa j 8), cuC (FV j 3)), ((fa j 9), rcC (FX j 0) (FV j 4) (FX j 3) (fa j 10)), ((fa j 10), mkC (fa j 11)), ((fa j 11), .inl (cJ, 4, .inr (.inl (FJ j 2))))] ++ va_pl L (pf cJ kd pi bd af bo)) ++ (FA_10 ++ FB_11)) H := hP
    have hD : va_D A (([(b0, cbC r0 fl nw), (fl, flC cO n fa), (r0, rdC ov (va_rf ol) r1 r2 r3 r4 r5), (r1, chC cf cl zn 0), (r2, chC cf cl zn 1), (r3, chC cf cl zn 2), (r4, chC cf cl zn 3), (r5, tlC cI tf), ((fa j 0), fwC (fa j 1) (fa j 9)), ((fa j 1), snC (FX j 0) (FX j 1) (FX j 2) (FV j 0) (fa j 2) (fa j 3) (fa j 8)), ((fa j 2), tmC (FV j 1)), ((fa j 3), boC (fa j 4) (fa j 6) (FV j 2)), ((fa j 4), mkC (fa j 5)), ((fa j 5), .inl (cJ, 4, .inr (.inl (FJ j 0)))), ((fa j 6), mkC (fa j 7)), ((fa j 7), .inl (cJ, 4, .inr (.inl (FJ j 1)))), ((fa j 8), cuC (FV j 3)), ((fa j 9), rcC (FX j 0) (FV j 4) (FX j 3) (fa j 10)), ((fa j 10), mkC (fa j 11)), ((fa j 11), .inl (cJ, 4, .inr (.inl (FJ j 2))))] ++ va_pl L (pf cJ kd pi bd af bo)) ++ (FA_10 ++ FB_11)) := hD
    generalize hv0 : FV j 0 = sv at hP hD hE
    generalize hv1 : FV j 1 = tv at hP hD hE
    generalize hv2 : FV j 2 = bv at hP hD hE
    generalize hv3 : FV j 3 = cv at hP hD hE
    generalize hv4 : FV j 4 = rv at hP hD hE
    generalize hj0 : FJ j 0 = f at hP hD hE
    generalize hj1 : FJ j 1 = g at hP hD hE
    generalize hj2 : FJ j 2 = kf at hP hD hE
    refine va_getN (D := D) (ci := 3) (v := .ref (fa j 1)) (C := RX3) (T := TX3) (N := 2) hx hb ha inlX3 hown hK hP 8 rfl rfl 0 (by decide) (va_Nw.use rfl (hN.f RX10 38 "CongestionBench$Flow" "sender" "LCongestionBench$Sender;" "CongestionBench" (by decide +kernel))) (fun _ h9 => h9) rfl dX10_most_14 ?_
    refine va_getN (D := D) (ci := 8) (v := .int (sv 7)) (C := RX8) (T := TX8) (N := 20) hx hb ha inlX8 hown hK hP 9 rfl rfl 7 (by decide) (va_Nw.use rfl (hN.f RX10 98 "CongestionBench$Sender" "mostCwnd" "I" "CongestionBench" (by decide +kernel))) (fun _ h9 => h9) rfl dX10_most_17 ?_
    refine lv_topi (fun x_14 ex_14 => ?_)
    have hE := bd_at ex_14 hE
    refine lv_goto (tgt := 24) hx hb dX10_most_20 (by decide) ?_
    have hpo := pm_close (X := [(b0, cbC r0 fl nw), (fl, flC cO n fa), (r0, rdC ov (va_rf ol) r1 r2 r3 r4 r5), (r1, chC cf cl zn 0), (r2, chC cf cl zn 1), (r3, chC cf cl zn 2), (r4, chC cf cl zn 3), (r5, tlC cI tf)]) (c := [((fa j 0), fwC (fa j 1) (fa j 9)), ((fa j 1), snC (FX j 0) (FX j 1) (FX j 2) sv (fa j 2) (fa j 3) (fa j 8)), ((fa j 2), tmC tv), ((fa j 3), boC (fa j 4) (fa j 6) bv), ((fa j 4), mkC (fa j 5)), ((fa j 5), .inl (cJ, 4, .inr (.inl f))), ((fa j 6), mkC (fa j 7)), ((fa j 7), .inl (cJ, 4, .inr (.inl g))), ((fa j 8), cuC cv), ((fa j 9), rcC (FX j 0) rv (FX j 3) (fa j 10)), ((fa j 10), mkC (fa j 11)), ((fa j 11), .inl (cJ, 4, .inr (.inl kf)))]) (pl := va_pl L (pf cJ kd pi bd af bo)) (fls_up (sv := sv) (tv := tv) (bv := bv) (cv := cv) (rv := rv) (f := f) (g := g) (kf := kf) hfu_13) (perm_idx (X := [(b0, cbC r0 fl nw), (fl, flC cO n fa), (r0, rdC ov (va_rf ol) r1 r2 r3 r4 r5), (r1, chC cf cl zn 0), (r2, chC cf cl zn 1), (r3, chC cf cl zn 2), (r4, chC cf cl zn 3), (r5, tlC cI tf), ((fa j 0), fwC (fa j 1) (fa j 9)), ((fa j 1), snC (FX j 0) (FX j 1) (FX j 2) sv (fa j 2) (fa j 3) (fa j 8)), ((fa j 2), tmC tv), ((fa j 3), boC (fa j 4) (fa j 6) bv), ((fa j 4), mkC (fa j 5)), ((fa j 5), .inl (cJ, 4, .inr (.inl f))), ((fa j 6), mkC (fa j 7)), ((fa j 7), .inl (cJ, 4, .inr (.inl g))), ((fa j 8), cuC cv), ((fa j 9), rcC (FX j 0) rv (FX j 3) (fa j 10)), ((fa j 10), mkC (fa j 11)), ((fa j 11), .inl (cJ, 4, .inr (.inl kf)))]) (Y := [(b0, cbC r0 fl nw), (fl, flC cO n fa), (r0, rdC ov (va_rf ol) r1 r2 r3 r4 r5), (r1, chC cf cl zn 0), (r2, chC cf cl zn 1), (r3, chC cf cl zn 2), (r4, chC cf cl zn 3), (r5, tlC cI tf), ((fa j 0), fwC (fa j 1) (fa j 9)), ((fa j 1), snC (FX j 0) (FX j 1) (FX j 2) sv (fa j 2) (fa j 3) (fa j 8)), ((fa j 2), tmC tv), ((fa j 3), boC (fa j 4) (fa j 6) bv), ((fa j 4), mkC (fa j 5)), ((fa j 5), .inl (cJ, 4, .inr (.inl f))), ((fa j 6), mkC (fa j 7)), ((fa j 7), .inl (cJ, 4, .inr (.inl g))), ((fa j 8), cuC cv), ((fa j 9), rcC (FX j 0) rv (FX j 3) (fa j 10)), ((fa j 10), mkC (fa j 11)), ((fa j 11), .inl (cJ, 4, .inr (.inl kf)))]) (N := 20) [0, 1, 2, 3, 4, 5, 6, 7, 8, 9, 10, 11, 12, 13, 14, 15, 16, 17, 18, 19] rfl rfl (by decide))
    have hP := hP.perm hpo
    have hD := hD.perm hpo
    clear hpo hfu_13
    have hP : va_P D vwCl (([(b0, cbC r0 fl nw), (fl, flC cO n fa), (r0, rdC ov (va_rf ol) r1 r2 r3 r4 r5), (r1, chC cf cl zn 0), (r2, chC cf cl zn 1), (r3, chC cf cl zn 2), (r4, chC cf cl zn 3), (r5, tlC cI tf)] ++ va_pl L (pf cJ kd pi bd af bo)) ++ fls cJ fa FX (va_up FV j (fpk sv tv bv cv rv)) (va_up FJ j (fpj f g kf)) n) H := hP
    have hD : va_D A (([(b0, cbC r0 fl nw), (fl, flC cO n fa), (r0, rdC ov (va_rf ol) r1 r2 r3 r4 r5), (r1, chC cf cl zn 0), (r2, chC cf cl zn 1), (r3, chC cf cl zn 2), (r4, chC cf cl zn 3), (r5, tlC cI tf)] ++ va_pl L (pf cJ kd pi bd af bo)) ++ fls cJ fa FX (va_up FV j (fpk sv tv bv cv rv)) (va_up FJ j (fpj f g kf)) n) := hD
    generalize hfv : va_up FV j (fpk sv tv bv cv rv) = FV at hP hD
    generalize hfj : va_up FJ j (fpj f g kf) = FJ at hP hD
    have hE := bs_at hfv hE
    have hE := bs_at hfj hE
    clear hfv hfj
    have hP9 : va_P D vwCl (([(b0, cbC r0 fl nw), (fl, flC cO n fa), (r0, rdC ov (va_rf ol) r1 r2 r3 r4 r5), (r1, chC cf cl zn 0), (r2, chC cf cl zn 1), (r3, chC cf cl zn 2), (r4, chC cf cl zn 3), (r5, tlC cI tf)] ++ va_pl L (pf cJ kd pi bd af bo)) ++ fls cJ fa FX FV FJ n) _ := hP
    have hD9 : va_D A (([(b0, cbC r0 fl nw), (fl, flC cO n fa), (r0, rdC ov (va_rf ol) r1 r2 r3 r4 r5), (r1, chC cf cl zn 0), (r2, chC cf cl zn 1), (r3, chC cf cl zn 2), (r4, chC cf cl zn 3), (r5, tlC cI tf)] ++ va_pl L (pf cJ kd pi bd af bo)) ++ fls cJ fa FX FV FJ n) := hD
    exact W.iret (v := x_14) hx hb hr (fun t ht hW => ⟨⟨x_14, (), rfl, ⟨trivial, (by rw [← hRES, hE])⟩, ⟨FV, FJ, ⟨(by rw [← hRES, hE]), (by rw [← hRES, hE])⟩, by rw [ht]; exact hP9, va_K.moved hW.alike hK, hD9⟩⟩, hS.F ht⟩) hS.2.2 dX10_most_24

def xc_count (n : Nat) (nw : Int32) (ov zn : Nat → Int32) (ol : Option Nat) (n1 : Int32) : Int32 := if n1 = 0 then nw else if n1 = 1 then nI n else bd (xc_roadTell ov zn ol n1) (fun t1 => bd t1 (fun r => r))
set_option maxHeartbeats 4000000 in
set_option maxRecDepth 100000 in
theorem s_count (l : Launch) (D : va_G) (cI cJ cZ cO : ClassId) (sz : Nat) (b0 fl : Nat) (nw : Int32) (n : Nat) (fa : Nat → Nat → Nat) (r0 r1 r2 r3 r4 r5 : Nat) (ov : Nat → Int32) (ol : Option Nat) (cf cl : Nat → Option Nat) (zn : Nat → Int32) (xl : Nat → List Nat) (tag : Nat → Nat) (L : List Nat) (kd : Nat → Bool) (pi : Nat → Nat → Int32) (bd : Nat → Nat) (af : Nat → Option Nat) (bo : Nat → Nat → Int64) (go : Option S4) (gq : List S3) (gw : List S4) (ga : List A6) (n1 : Int32) : Met l yX10_count (wa yX10_count cX10_count 2 (some .int)) ({ frames := 1, cells := 0, slots := 0, locals := 21 }) (va_Pc [.ref b0, .int n1] (pw_s D cI cJ cZ cO sz [(b0, cbC r0 fl nw), (fl, flC cO n fa), (r0, rdC ov (va_rf ol) r1 r2 r3 r4 r5), (r1, chC cf cl zn 0), (r2, chC cf cl zn 1), (r3, chC cf cl zn 2)])) (va_Qi (fun (r : Int32) (_ : Unit) => ((True) ∧ r = (xc_count n nw ov zn ol n1))) (fun (_ : Unit) (t : State) => pw_t D cI cJ cZ cO (va_A [(b0, cbC r0 fl nw), (fl, flC cO n fa), (r0, rdC ov (va_rf ol) r1 r2 r3 r4 r5), (r1, chC cf cl zn 0), (r2, chC cf cl zn 1), (r3, chC cf cl zn 2)] sz) [(b0, cbC r0 fl nw), (fl, flC cO n fa), (r0, rdC ov (va_rf ol) r1 r2 r3 r4 r5), (r1, chC cf cl zn 0), (r2, chC cf cl zn 1), (r3, chC cf cl zn 2)] t) (va_A [(b0, cbC r0 fl nw), (fl, flC cO n fa), (r0, rdC ov (va_rf ol) r1 r2 r3 r4 r5), (r1, chC cf cl zn 0), (r2, chC cf cl zn 1), (r3, chC cf cl zn 2)] sz)) 0 0 (va_A [(b0, cbC r0 fl nw), (fl, flC cO n fa), (r0, rdC ov (va_rf ol) r1 r2 r3 r4 r5), (r1, chC cf cl zn 0), (r2, chC cf cl zn 1), (r3, chC cf cl zn 2)] sz) := by
  refine Met.ofW (cc := cX10_count) (maxL := 2) (ret := (some .int)) (by decide) rfl ?_
  intro p e s m args below meth c s₁ B hml hv
  obtain ⟨rfl, hsz, hP, hK, hD0, hN⟩ := hv
  have hx := B.exec
  have hb := B.bytes
  have hr := B.returns
  have hts := atoms_spec (ws := (wa yX10_count cX10_count 2 (some .int))) B.pre
  have ha : ∀ w ∈ wsL_law, w.before _ s = true := fun w h => hts w (List.mem_cons_of_mem _ h)
  have hown : s.vm.findClass RX10 = some m.cls := findClass_of_methodNamed B.named
  have hlocks := B.notSynchronized
  subst hsz
  have hD := hD0.self (sz := s.heap.size)
  generalize hAe : va_A [(b0, cbC r0 fl nw), (fl, flC cO n fa), (r0, rdC ov (va_rf ol) r1 r2 r3 r4 r5), (r1, chC cf cl zn 0), (r2, chC cf cl zn 1), (r3, chC cf cl zn 2)] s.heap.size = A at hD ⊢
  have hA : ∀ q : Nat, s.heap.size ≤ q → A q := fun q h => by rw [← hAe]; exact Or.inr h
  have hS : va_S A s.heap s.heap [] := va_S.rf
  have hP : va_P D vwCl [(b0, cbC r0 fl nw), (fl, flC cO n fa), (r0, rdC ov (va_rf ol) r1 r2 r3 r4 r5), (r1, chC cf cl zn 0), (r2, chC cf cl zn 1), (r3, chC cf cl zn 2)] s.heap := hP
  have hl := lv_entry ([.ref b0, .int n1]) (n := 2) (Nat.le_of_ble_eq_true rfl)
  rw [lg_entry_eq]
  generalize (lg_sl ([.ref b0, .int n1]) ++ List.replicate (2 - (lg_sl ([.ref b0, .int n1])).length) Slot.unset).toArray = ls at hl ⊢
  have hl : lv_has ls 2 [(0, .ref b0), (1, .int n1)] := hl
  obtain ⟨QP, hQP⟩ : ∃ y : State → Prop, y = (MQ below (va_Qi (fun (r : Int32) (_ : Unit) => ((True) ∧ r = (xc_count n nw ov zn ol n1))) (fun (_ : Unit) (t : State) => pw_t D cI cJ cZ cO A [(b0, cbC r0 fl nw), (fl, flC cO n fa), (r0, rdC ov (va_rf ol) r1 r2 r3 r4 r5), (r1, chC cf cl zn 0), (r2, chC cf cl zn 1), (r3, chC cf cl zn 2)] t) A) #[(.ref b0 : Value), (.int n1 : Value)] s 0 0 A) := ⟨_, rfl⟩
  obtain ⟨RES, hRES⟩ : ∃ y, y = (xc_count n nw ov zn ol n1) := ⟨_, rfl⟩
  -- from the entry
  have hE := hRES
  unfold xc_count at hE
  refine lv_iload_n hx hb dX10_count_0 rfl (lv_at hl 1 rfl) ?_
  by_cases t_3_0 : n1 = 0
  · have hE := hE.trans (if_pos t_3_0)
    refine lv_lookup (tgt := 28) (off := 27) hx hb dX10_count_1 (by decide) (by rw [t_3_0]; decide) (by decide) ?_
    refine lv_aload_n hx hb dX10_count_28 rfl (lv_at hl 0 rfl) ?_
    refine va_get (D := D) (ci := 10) (v := .int nw) (C := RX10) (T := TX10) (N := 3) hx hb ha inlX10 hown hK hP 0 rfl rfl 2 (by decide) (ha _ kf_X10_60) (fun _ h9 => h9) rfl dX10_count_29 ?_
    have hP9 : va_P D vwCl [(b0, cbC r0 fl nw), (fl, flC cO n fa), (r0, rdC ov (va_rf ol) r1 r2 r3 r4 r5), (r1, chC cf cl zn 0), (r2, chC cf cl zn 1), (r3, chC cf cl zn 2)] _ := hP
    have hD9 : va_D A [(b0, cbC r0 fl nw), (fl, flC cO n fa), (r0, rdC ov (va_rf ol) r1 r2 r3 r4 r5), (r1, chC cf cl zn 0), (r2, chC cf cl zn 1), (r3, chC cf cl zn 2)] := hD
    exact W.iret (v := nw) hx hb hr (fun t ht hW => ⟨⟨nw, (), rfl, ⟨trivial, (by rw [← hRES, hE])⟩, ⟨by rw [ht]; exact hP9, va_K.moved hW.alike hK, hD9⟩⟩, hS.F ht⟩) hS.2.2 dX10_count_32
  have hE := hE.trans (if_neg t_3_0)
  by_cases t_3_1 : n1 = 1
  · have hE := hE.trans (if_pos t_3_1)
    refine lv_lookup (tgt := 33) (off := 32) hx hb dX10_count_1 (by decide) (by rw [t_3_1]; decide) (by decide) ?_
    refine lv_aload_n hx hb dX10_count_33 rfl (lv_at hl 0 rfl) ?_
    refine va_get (D := D) (ci := 10) (v := .ref fl) (C := RX10) (T := TX10) (N := 3) hx hb ha inlX10 hown hK hP 0 rfl rfl 1 (by decide) (ha _ kf_X10_18) (fun _ h9 => h9) rfl dX10_count_34 ?_
    refine va_alen hx hb hK hP 1 3 (v := nI n) rfl rfl rfl dX10_count_37 ?_
    have hP9 : va_P D vwCl [(b0, cbC r0 fl nw), (fl, flC cO n fa), (r0, rdC ov (va_rf ol) r1 r2 r3 r4 r5), (r1, chC cf cl zn 0), (r2, chC cf cl zn 1), (r3, chC cf cl zn 2)] _ := hP
    have hD9 : va_D A [(b0, cbC r0 fl nw), (fl, flC cO n fa), (r0, rdC ov (va_rf ol) r1 r2 r3 r4 r5), (r1, chC cf cl zn 0), (r2, chC cf cl zn 1), (r3, chC cf cl zn 2)] := hD
    exact W.iret (v := nI n) hx hb hr (fun t ht hW => ⟨⟨nI n, (), rfl, ⟨trivial, (by rw [← hRES, hE])⟩, ⟨by rw [ht]; exact hP9, va_K.moved hW.alike hK, hD9⟩⟩, hS.F ht⟩) hS.2.2 dX10_count_38
  have hE := hE.trans (if_neg t_3_1)
  refine lv_lookup (tgt := 39) (off := 38) hx hb dX10_count_1 (by decide) ((lv_osw (k := 0) t_3_0 (by decide)).trans ((lv_osw (k := 1) t_3_1 (by decide)).trans (rfl))) (by decide) ?_
  refine lv_aload_n hx hb dX10_count_39 rfl (lv_at hl 0 rfl) ?_
  refine va_get (D := D) (ci := 10) (v := .ref r0) (C := RX10) (T := TX10) (N := 3) hx hb ha inlX10 hown hK hP 0 rfl rfl 0 (by decide) (ha _ kf_X10_10) (fun _ h9 => h9) rfl dX10_count_40 ?_
  refine lv_iload_n hx hb dX10_count_43 rfl (lv_at hl 1 rfl) ?_
  have hPc := hP.sub (ws' := [(r0, rdC ov (va_rf ol) r1 r2 r3 r4 r5), (r1, chC cf cl zn 0), (r2, chC cf cl zn 1), (r3, chC cf cl zn 2)]) [2, 3, 4, 5] rfl
  have hDc := hD.sub (ws' := [(r0, rdC ov (va_rf ol) r1 r2 r3 r4 r5), (r1, chC cf cl zn 0), (r2, chC cf cl zn 1), (r3, chC cf cl zn 2)]) [2, 3, 4, 5] (by decide) rfl
  have hFc := va_free (wc := [(r0, rdC ov (va_rf ol) r1 r2 r3 r4 r5), (r1, chC cf cl zn 0), (r2, chC cf cl zn 1), (r3, chC cf cl zn 2)]) hD hS hA [2, 3, 4, 5] rfl
  refine va_calli (va_runV (As := [.int n1]) (rest := []) ⟨hx, hb, hml, hown, ha⟩ (s_roadTell l D cI cJ cZ cO _ r0 r1 r2 r3 r4 r5 ov ol cf cl zn xl tag L kd pi bd af bo go gq gw ga n1) (cwV 1 ha (gaV kl_X10_101 km_X7_tell ks_X7_tell kz_X7 kd_X7_tell) rfl rfl rfl (by decide +kernel) ⟨Nat.le_of_ble_eq_true rfl, Nat.le_of_ble_eq_true rfl⟩) ⟨pw_blind, va_recv hK hPc (ci := 7) (q0 := 0) rfl rfl, fun U hU hW => ⟨rfl, pw_start hU hW hPc hK hDc hN⟩⟩ rfl rfl hl.1 rfl (lv_room (Nat.le_of_ble_eq_true rfl)) dX10_count_44 ⟨Nat.le_of_ble_eq_true rfl, Nat.le_of_ble_eq_true rfl⟩) hS (fun q _ h => hFc q h) hFc (fun r_4 u t H1 locs ht hvm hw hB hz1 hk1 hS => ?_)
  obtain ⟨hP1, hK1, hD1⟩ := hB
  have hE := bd_at rfl hE
  have hE := bd_at hw.2 hE
  rw [ht] at hP1
  obtain ⟨hP, hD⟩ := va_join (wr := [(b0, cbC r0 fl nw), (fl, flC cO n fa)]) (w1 := [(r0, rdC ov (va_rf ol) r1 r2 r3 r4 r5), (r1, chC cf cl zn 0), (r2, chC cf cl zn 1), (r3, chC cf cl zn 2)]) hP hD [2, 3, 4, 5] [0, 1] rfl rfl (by decide) (by decide) hk1 hFc hP1 hD1
  generalize H1 = H at hP hS ⊢
  have hP : va_P D vwCl [(b0, cbC r0 fl nw), (fl, flC cO n fa), (r0, rdC ov (va_rf ol) r1 r2 r3 r4 r5), (r1, chC cf cl zn 0), (r2, chC cf cl zn 1), (r3, chC cf cl zn 2)] H := hP
  have hD : va_D A [(b0, cbC r0 fl nw), (fl, flC cO n fa), (r0, rdC ov (va_rf ol) r1 r2 r3 r4 r5), (r1, chC cf cl zn 0), (r2, chC cf cl zn 1), (r3, chC cf cl zn 2)] := hD
  refine W.widen (k := 0) (n := 0) (Nat.le_of_ble_eq_true rfl) (Nat.le_of_ble_eq_true rfl) ?_
  have hr_4 := hw.1
  have hP9 : va_P D vwCl [(b0, cbC r0 fl nw), (fl, flC cO n fa), (r0, rdC ov (va_rf ol) r1 r2 r3 r4 r5), (r1, chC cf cl zn 0), (r2, chC cf cl zn 1), (r3, chC cf cl zn 2)] _ := hP
  have hD9 : va_D A [(b0, cbC r0 fl nw), (fl, flC cO n fa), (r0, rdC ov (va_rf ol) r1 r2 r3 r4 r5), (r1, chC cf cl zn 0), (r2, chC cf cl zn 1), (r3, chC cf cl zn 2)] := hD
  exact W.iret (v := r_4) hx hb hr (fun t ht hW => ⟨⟨r_4, (), rfl, ⟨trivial, (by rw [← hRES, hE])⟩, ⟨by rw [ht]; exact hP9, va_K.moved hW.alike hK, hD9⟩⟩, hS.F ht⟩) hS.2.2 dX10_count_47

def xc_sendAck (ov : Nat → Int32) (ga : List A6) (n0 w0 : Int32) (rv : Nat → Int32) (f : Nat → Int64) (n1 n2 : Int32) : (Nat → Int64) × (List A6) :=
  bd (rv 2) (fun v1 => bd (xc_writeToP f) (fun t1 => bd t1 (fun f => bd (ov 3) (fun v2 => bd (n2 + v2) (fun v3 => bd (insA (v3, n0, v1, n1, w0, rw4 f) ga) (fun ga => (f, ga)))))))
set_option maxHeartbeats 4000000 in
set_option maxRecDepth 100000 in
theorem s_sendAck (l : Launch) (D : va_G) (cI cJ cZ cO : ClassId) (Hh : Heap) (r0 r1 r2 r3 r4 r5 : Nat) (ov : Nat → Int32) (ol : Option Nat) (cf cl : Nat → Option Nat) (zn : Nat → Int32) (xl : Nat → List Nat) (tag : Nat → Nat) (L : List Nat) (kd : Nat → Bool) (pi : Nat → Nat → Int32) (bd : Nat → Nat) (af : Nat → Option Nat) (bo : Nat → Nat → Int64) (go : Option S4) (gq : List S3) (gw : List S4) (ga : List A6) (h0 h1 h2 : Nat) (n0 w0 : Int32) (rv : Nat → Int32) (f : Nat → Int64) (n1 n2 : Int32) (hz : n1 = 0 ∨ n1 = 1) (hR : RI L kd af tag cf cl xl ol) (hPB : PB L kd pi bd) (hZ : ZN zn xl) (hG : GG xl pi bd bo ol go gq gw ga) (hJ : JB L kd bd) (hS2 : Srt (dz pi (xl 2))) : Met l yX7_sendAck (wa yX7_sendAck cX7_sendAck 5 none) ({ frames := 2, cells := 2, slots := 11, locals := 43 }) (va_Pc [.ref r0, .ref h0, .int n1, .int n2] (pw_h D cI cJ cZ cO Hh ([(r0, rdC ov (va_rf ol) r1 r2 r3 r4 r5), (r1, chC cf cl zn 0), (r2, chC cf cl zn 1), (r3, chC cf cl zn 2), (r4, chC cf cl zn 3), (h0, rcC n0 rv w0 h1), (h1, mkC h2), (h2, .inl (cJ, 4, .inr (.inl f)))] ++ va_pl L (pf cJ kd pi bd af bo)))) (va_Qv (fun (_ : Unit) => True) (fun (_ : Unit) (t : State) => ∃ (cf2 cl2 : Nat → Option Nat) (zn2 : Nat → Int32) (xl2 : Nat → List Nat) (tag2 : Nat → Nat) (f2 : Nat → Int64) (L2 : List Nat) (kd2 : Nat → Bool) (pi2 : Nat → Nat → Int32) (bd2 : Nat → Nat) (af2 : Nat → Option Nat) (bo2 : Nat → Nat → Int64) (b2 : Nat) (ga2 : List A6), ((RI L2 kd2 af2 tag2 cf2 cl2 xl2 ol ∧ PB L2 kd2 pi2 bd2 ∧ ZN zn2 xl2 ∧ gr Hh t.heap b2 ∧ b2 ≤ 1 ∧ QQ L kd tag xl pi ol L2 kd2 tag2 xl2 pi2 ol [] [n2 + ov 3] b2 0) ∧ (GG xl2 pi2 bd2 bo2 ol go gq gw ga2 ∧ JB L2 kd2 bd2) ∧ f2 = (xc_sendAck ov ga n0 w0 rv f n1 n2).1 ∧ ga2 = (xc_sendAck ov ga n0 w0 rv f n1 n2).2) ∧ pw_t D cI cJ cZ cO (va_A ([(r0, rdC ov (va_rf ol) r1 r2 r3 r4 r5), (r1, chC cf cl zn 0), (r2, chC cf cl zn 1), (r3, chC cf cl zn 2), (r4, chC cf cl zn 3), (h0, rcC n0 rv w0 h1), (h1, mkC h2), (h2, .inl (cJ, 4, .inr (.inl f)))] ++ va_pl L (pf cJ kd pi bd af bo)) Hh.size) ([(r0, rdC ov (va_rf ol) r1 r2 r3 r4 r5), (r1, chC cf2 cl2 zn2 0), (r2, chC cf2 cl2 zn2 1), (r3, chC cf2 cl2 zn2 2), (r4, chC cf2 cl2 zn2 3), (h0, rcC n0 rv w0 h1), (h1, mkC h2), (h2, .inl (cJ, 4, .inr (.inl f2)))] ++ va_pl L2 (pf cJ kd2 pi2 bd2 af2 bo2)) t) (va_A ([(r0, rdC ov (va_rf ol) r1 r2 r3 r4 r5), (r1, chC cf cl zn 0), (r2, chC cf cl zn 1), (r3, chC cf cl zn 2), (r4, chC cf cl zn 3), (h0, rcC n0 rv w0 h1), (h1, mkC h2), (h2, .inl (cJ, 4, .inr (.inl f)))] ++ va_pl L (pf cJ kd pi bd af bo)) Hh.size)) 2 11 (va_A ([(r0, rdC ov (va_rf ol) r1 r2 r3 r4 r5), (r1, chC cf cl zn 0), (r2, chC cf cl zn 1), (r3, chC cf cl zn 2), (r4, chC cf cl zn 3), (h0, rcC n0 rv w0 h1), (h1, mkC h2), (h2, .inl (cJ, 4, .inr (.inl f)))] ++ va_pl L (pf cJ kd pi bd af bo)) Hh.size) := by
  refine Met.ofW (cc := cX7_sendAck) (maxL := 5) (ret := none) (by decide) rfl ?_
  intro p e s m args below meth c s₁ B hml hv
  obtain ⟨rfl, hsz, hP, hK, hD0, hN⟩ := hv
  have hx := B.exec
  have hb := B.bytes
  have hr := B.returns
  have hts := atoms_spec (ws := (wa yX7_sendAck cX7_sendAck 5 none)) B.pre
  have ha : ∀ w ∈ wsL_law, w.before _ s = true := fun w h => hts w (List.mem_cons_of_mem _ h)
  have hown : s.vm.findClass RX7 = some m.cls := findClass_of_methodNamed B.named
  have hlocks := B.notSynchronized
  subst hsz
  have hD := hD0.self (sz := s.heap.size)
  generalize hAe : va_A ([(r0, rdC ov (va_rf ol) r1 r2 r3 r4 r5), (r1, chC cf cl zn 0), (r2, chC cf cl zn 1), (r3, chC cf cl zn 2), (r4, chC cf cl zn 3), (h0, rcC n0 rv w0 h1), (h1, mkC h2), (h2, .inl (cJ, 4, .inr (.inl f)))] ++ va_pl L (pf cJ kd pi bd af bo)) s.heap.size = A at hD ⊢
  have hA : ∀ q : Nat, s.heap.size ≤ q → A q := fun q h => by rw [← hAe]; exact Or.inr h
  have hS : va_S A s.heap s.heap [] := va_S.rf
  have hP : va_P D vwCl ([(r0, rdC ov (va_rf ol) r1 r2 r3 r4 r5), (r1, chC cf cl zn 0), (r2, chC cf cl zn 1), (r3, chC cf cl zn 2), (r4, chC cf cl zn 3), (h0, rcC n0 rv w0 h1), (h1, mkC h2), (h2, .inl (cJ, 4, .inr (.inl f)))] ++ va_pl L (pf cJ kd pi bd af bo)) s.heap := hP
  have hl := lv_entry ([.ref r0, .ref h0, .int n1, .int n2]) (n := 5) (Nat.le_of_ble_eq_true rfl)
  rw [lg_entry_eq]
  generalize (lg_sl ([.ref r0, .ref h0, .int n1, .int n2]) ++ List.replicate (5 - (lg_sl ([.ref r0, .ref h0, .int n1, .int n2])).length) Slot.unset).toArray = ls at hl ⊢
  have hl : lv_has ls 5 [(0, .ref r0), (1, .ref h0), (2, .int n1), (3, .int n2)] := hl
  obtain ⟨QP, hQP⟩ : ∃ y : State → Prop, y = (MQ below (va_Qv (fun (_ : Unit) => True) (fun (_ : Unit) (t : State) => ∃ (cf2 cl2 : Nat → Option Nat) (zn2 : Nat → Int32) (xl2 : Nat → List Nat) (tag2 : Nat → Nat) (f2 : Nat → Int64) (L2 : List Nat) (kd2 : Nat → Bool) (pi2 : Nat → Nat → Int32) (bd2 : Nat → Nat) (af2 : Nat → Option Nat) (bo2 : Nat → Nat → Int64) (b2 : Nat) (ga2 : List A6), ((RI L2 kd2 af2 tag2 cf2 cl2 xl2 ol ∧ PB L2 kd2 pi2 bd2 ∧ ZN zn2 xl2 ∧ gr s.heap t.heap b2 ∧ b2 ≤ 1 ∧ QQ L kd tag xl pi ol L2 kd2 tag2 xl2 pi2 ol [] [n2 + ov 3] b2 0) ∧ (GG xl2 pi2 bd2 bo2 ol go gq gw ga2 ∧ JB L2 kd2 bd2) ∧ f2 = (xc_sendAck ov ga n0 w0 rv f n1 n2).1 ∧ ga2 = (xc_sendAck ov ga n0 w0 rv f n1 n2).2) ∧ pw_t D cI cJ cZ cO A ([(r0, rdC ov (va_rf ol) r1 r2 r3 r4 r5), (r1, chC cf2 cl2 zn2 0), (r2, chC cf2 cl2 zn2 1), (r3, chC cf2 cl2 zn2 2), (r4, chC cf2 cl2 zn2 3), (h0, rcC n0 rv w0 h1), (h1, mkC h2), (h2, .inl (cJ, 4, .inr (.inl f2)))] ++ va_pl L2 (pf cJ kd2 pi2 bd2 af2 bo2)) t) A) #[(.ref r0 : Value), (.ref h0 : Value), (.int n1 : Value), (.int n2 : Value)] s 2 11 A) := ⟨_, rfl⟩
  obtain ⟨RES, hRES⟩ : ∃ y, y = (xc_sendAck ov ga n0 w0 rv f n1 n2) := ⟨_, rfl⟩
  have hQ : QQ L kd tag xl pi ol L kd tag xl pi ol [] [] 0 0 := QQ_rf
  -- from the entry
  have hE := hRES
  unfold xc_sendAck at hE
  refine lv_aload_n hx hb dX7_sendAck_0 rfl (lv_at hl 0 rfl) ?_
  refine va_get (D := D) (ci := 7) (v := .ref r4) (C := RX7) (T := TX7) (N := 15) hx hb ha inlX7 hown hK hP 0 rfl rfl 8 (by decide) (ha _ kf_X7_37) (fun _ h9 => h9) rfl dX7_sendAck_1 ?_
  have hR0 := hR
  have hPc := hP.part (X := [(r0, rdC ov (va_rf ol) r1 r2 r3 r4 r5), (r1, chC cf cl zn 0), (r2, chC cf cl zn 1), (r3, chC cf cl zn 2), (r4, chC cf cl zn 3), (h0, rcC n0 rv w0 h1), (h1, mkC h2), (h2, .inl (cJ, 4, .inr (.inl f)))]) (cx := [(r4, chC cf cl zn 3)]) (pl := va_pl L (pf cJ kd pi bd af bo)) [4] rfl
  have hDc := hD.part (X := [(r0, rdC ov (va_rf ol) r1 r2 r3 r4 r5), (r1, chC cf cl zn 0), (r2, chC cf cl zn 1), (r3, chC cf cl zn 2), (r4, chC cf cl zn 3), (h0, rcC n0 rv w0 h1), (h1, mkC h2), (h2, .inl (cJ, 4, .inr (.inl f)))]) (cx := [(r4, chC cf cl zn 3)]) (pl := va_pl L (pf cJ kd pi bd af bo)) [4] (by decide) rfl
  have hFc := va_freeP (X := [(r0, rdC ov (va_rf ol) r1 r2 r3 r4 r5), (r1, chC cf cl zn 0), (r2, chC cf cl zn 1), (r3, chC cf cl zn 2), (r4, chC cf cl zn 3), (h0, rcC n0 rv w0 h1), (h1, mkC h2), (h2, .inl (cJ, 4, .inr (.inl f)))]) (cx := [(r4, chC cf cl zn 3)]) (pl := va_pl L (pf cJ kd pi bd af bo)) hD hS hA [4] rfl
  refine va_callq (va_runV (As := []) (rest := []) ⟨hx, hb, hml, hown, ha⟩ (s_takeFirst l D cI cJ cZ cO _ r4 L kd pi bd af bo (cf 3) (cl 3) (zn 3) (RI_fi hR (by decide)) (RI_cl hR (by decide))) (cwV 0 ha (gaV kl_X7_67 km_X1_takeFirst ks_X1_takeFirst kz_X1 kd_X1_takeFirst) rfl rfl rfl (by decide +kernel) ⟨Nat.le_of_ble_eq_true rfl, Nat.le_of_ble_eq_true rfl⟩) ⟨pw_blind, va_recv hK hPc (ci := 1) (q0 := 0) rfl rfl, fun U hU hW => ⟨rfl, pw_start hU hW hPc hK hDc hN⟩⟩ rfl rfl hl.1 rfl (lv_room (Nat.le_of_ble_eq_true rfl)) dX7_sendAck_4 ⟨Nat.le_of_ble_eq_true rfl, Nat.le_of_ble_eq_true rfl⟩) hS (fun q _ h => hFc q h) hFc (fun r_79 u t H1 locs ht hvm hw hB hz1 hk1 hS => ?_)
  obtain ⟨hP1, hK1, hD1⟩ := hB
  rw [ht] at hP1
  obtain ⟨hP, hD⟩ := va_joinP (wr := [(r0, rdC ov (va_rf ol) r1 r2 r3 r4 r5), (r1, chC cf cl zn 0), (r2, chC cf cl zn 1), (r3, chC cf cl zn 2), (h0, rcC n0 rv w0 h1), (h1, mkC h2), (h2, .inl (cJ, 4, .inr (.inl f)))]) (rx := [(r4, .inr (1, [va_rf (tk_fi af (cf 3)), va_rf (tk_la af (cf 3) (cl 3)), .int (tk_n (cf 3) (zn 3))]))]) (pl1 := va_pl L (pf cJ kd pi bd (tk_af af (cf 3)) bo)) hP hD [4] [0, 1, 2, 3, 5, 6, 7] rfl rfl (by decide) (by decide) hk1 hFc hP1 hD1
  generalize H1 = H at hP hS ⊢
  have hP : va_P D vwCl ([(r0, rdC ov (va_rf ol) r1 r2 r3 r4 r5), (r1, chC cf cl zn 0), (r2, chC cf cl zn 1), (r3, chC cf cl zn 2), (h0, rcC n0 rv w0 h1), (h1, mkC h2), (h2, .inl (cJ, 4, .inr (.inl f))), (r4, .inr (1, [va_rf (tk_fi af (cf 3)), va_rf (tk_la af (cf 3) (cl 3)), .int (tk_n (cf 3) (zn 3))]))] ++ va_pl L (pf cJ kd pi bd (tk_af af (cf 3)) bo)) H := hP
  have hD : va_D A ([(r0, rdC ov (va_rf ol) r1 r2 r3 r4 r5), (r1, chC cf cl zn 0), (r2, chC cf cl zn 1), (r3, chC cf cl zn 2), (h0, rcC n0 rv w0 h1), (h1, mkC h2), (h2, .inl (cJ, 4, .inr (.inl f))), (r4, .inr (1, [va_rf (tk_fi af (cf 3)), va_rf (tk_la af (cf 3) (cl 3)), .int (tk_n (cf 3) (zn 3))]))] ++ va_pl L (pf cJ kd pi bd (tk_af af (cf 3)) bo)) := hD
  refine W.widen (k := 0) (n := 0) (Nat.le_of_ble_eq_true rfl) (Nat.le_of_ble_eq_true rfl) ?_
  obtain rfl : (cf 3) = r_79 := (hw).symm
  have hZ := ZN_tk hZ hR0 (j := 3) (by decide)
  have hR := RI_tk hR0 (i := 3) (by decide)
  cases ho_81 : cf 3 with
  | none =>
    rw [ho_81] at hR hZ hP hD
    have hQ := QQ_tkn3 hQ hR0 ho_81
    have hn3 : va_up cf 3 (tk_fi af none) 3 = none := va_up_self _ _ _
    have hG := GG_x3 (l := (xl 3).tail) hG
    have hP : va_P D vwCl ([(r0, rdC ov (va_rf ol) r1 r2 r3 r4 r5), (r1, .inr (1, [va_rf (va_up cf 3 (tk_fi af none) 0), va_rf (va_up cl 3 (tk_la af none (cl 3)) 0), .int (va_up zn 3 (tk_n none (zn 3)) 0)])), (r2, .inr (1, [va_rf (va_up cf 3 (tk_fi af none) 1), va_rf (va_up cl 3 (tk_la af none (cl 3)) 1), .int (va_up zn 3 (tk_n none (zn 3)) 1)])), (r3, .inr (1, [va_rf (va_up cf 3 (tk_fi af none) 2), va_rf (va_up cl 3 (tk_la af none (cl 3)) 2), .int (va_up zn 3 (tk_n none (zn 3)) 2)])), (h0, rcC n0 rv w0 h1), (h1, mkC h2), (h2, .inl (cJ, 4, .inr (.inl f))), (r4, .inr (1, [va_rf (va_up cf 3 (tk_fi af none) 3), va_rf (va_up cl 3 (tk_la af none (cl 3)) 3), .int (va_up zn 3 (tk_n none (zn 3)) 3)]))] ++ va_pl L (pf cJ kd pi bd (tk_af af none) bo)) H := hP
    have hD : va_D A ([(r0, rdC ov (va_rf ol) r1 r2 r3 r4 r5), (r1, .inr (1, [va_rf (va_up cf 3 (tk_fi af none) 0), va_rf (va_up cl 3 (tk_la af none (cl 3)) 0), .int (va_up zn 3 (tk_n none (zn 3)) 0)])), (r2, .inr (1, [va_rf (va_up cf 3 (tk_fi af none) 1), va_rf (va_up cl 3 (tk_la af none (cl 3)) 1), .int (va_up zn 3 (tk_n none (zn 3)) 1)])), (r3, .inr (1, [va_rf (va_up cf 3 (tk_fi af none) 2), va_rf (va_up cl 3 (tk_la af none (cl 3)) 2), .int (va_up zn 3 (tk_n none (zn 3)) 2)])), (h0, rcC n0 rv w0 h1), (h1, mkC h2), (h2, .inl (cJ, 4, .inr (.inl f))), (r4, .inr (1, [va_rf (va_up cf 3 (tk_fi af none) 3), va_rf (va_up cl 3 (tk_la af none (cl 3)) 3), .int (va_up zn 3 (tk_n none (zn 3)) 3)]))] ++ va_pl L (pf cJ kd pi bd (tk_af af none) bo)) := hD
    generalize g_82 : va_up cf 3 (tk_fi af none) = cf at hP hD hR hn3
    generalize g_83 : va_up cl 3 (tk_la af none (cl 3)) = cl at hP hD hR
    generalize g_84 : va_up zn 3 (tk_n none (zn 3)) = zn at hP hD hZ
    generalize g_85 : va_up xl 3 (xl 3).tail = xl at hR hZ hQ hG
    generalize g_86 : tk_tag tag none = tag at hR hQ
    generalize (tk_af af none) = af at hP hD hR
    refine lv_astoreN (lv' := [(4, .null), (0, .ref r0), (1, .ref h0), (2, .int n1), (3, .int n2)]) hx hb dX7_sendAck_7 hl (by decide) rfl (fun ls hl => ?_)
    refine lv_aloadN hx hb dX7_sendAck_9 (lv_at hl 0 rfl) ?_
    refine lv_ifnonnullN hx hb dX7_sendAck_11 ?_
    refine va_new (ci := 5) (fs := [.int 0, .int 0, .int 0, .int 0, .int 0, .null, .null]) (C := RX5) (T := TX5) (N := 7) hx hb ha inlX5 tyX5 tyX5_ok hown (ha _ kc_X7_59) (ha _ ki_X5) (ha _ kz_X5) hK hP hD hS hA rfl (by decide) (Nat.le_of_ble_eq_true rfl) (Nat.le_of_ble_eq_true rfl) dX7_sendAck_14 (fun q_87 H hP hD hS => ?_)
    have hP := va_P.swap (a := [(r0, rdC ov (va_rf ol) r1 r2 r3 r4 r5), (r1, chC cf cl zn 0), (r2, chC cf cl zn 1), (r3, chC cf cl zn 2), (h0, rcC n0 rv w0 h1), (h1, mkC h2), (h2, .inl (cJ, 4, .inr (.inl f))), (r4, chC cf cl zn 3)]) (b := va_pl L (pf cJ kd pi bd af bo)) (c := [(q_87, .inr (5, [.int 0, .int 0, .int 0, .int 0, .int 0, .null, .null]))]) hP
    have n_q_87 : q_87 ∉ L := va_pl_fresh2 (X := [(r0, rdC ov (va_rf ol) r1 r2 r3 r4 r5), (r1, chC cf cl zn 0), (r2, chC cf cl zn 1), (r3, chC cf cl zn 2), (h0, rcC n0 rv w0 h1), (h1, mkC h2), (h2, .inl (cJ, 4, .inr (.inl f))), (r4, chC cf cl zn 3)]) (f := pf cJ kd pi bd af bo) (e := .inr (5, [.int 0, .int 0, .int 0, .int 0, .int 0, .null, .null])) hD
    have hD := va_D.swap (a := [(r0, rdC ov (va_rf ol) r1 r2 r3 r4 r5), (r1, chC cf cl zn 0), (r2, chC cf cl zn 1), (r3, chC cf cl zn 2), (h0, rcC n0 rv w0 h1), (h1, mkC h2), (h2, .inl (cJ, 4, .inr (.inl f))), (r4, chC cf cl zn 3)]) (b := va_pl L (pf cJ kd pi bd af bo)) (c := [(q_87, .inr (5, [.int 0, .int 0, .int 0, .int 0, .int 0, .null, .null]))]) hD
    have hP : va_P D vwCl ([(r0, rdC ov (va_rf ol) r1 r2 r3 r4 r5), (r1, chC cf cl zn 0), (r2, chC cf cl zn 1), (r3, chC cf cl zn 2), (h0, rcC n0 rv w0 h1), (h1, mkC h2), (h2, .inl (cJ, 4, .inr (.inl f))), (r4, chC cf cl zn 3), (q_87, .inr (5, [.int 0, .int 0, .int 0, .int 0, .int 0, .null, .null]))] ++ va_pl L (pf cJ kd pi bd af bo)) H := hP
    have hD : va_D A ([(r0, rdC ov (va_rf ol) r1 r2 r3 r4 r5), (r1, chC cf cl zn 0), (r2, chC cf cl zn 1), (r3, chC cf cl zn 2), (h0, rcC n0 rv w0 h1), (h1, mkC h2), (h2, .inl (cJ, 4, .inr (.inl f))), (r4, chC cf cl zn 3), (q_87, .inr (5, [.int 0, .int 0, .int 0, .int 0, .int 0, .null, .null]))] ++ va_pl L (pf cJ kd pi bd af bo)) := hD
    refine W.widen (k := 1) (n := 7) (Nat.le_of_ble_eq_true rfl) (Nat.le_of_ble_eq_true rfl) ?_
    refine lv_dup hx hb dX7_sendAck_17 rfl ?_
    have hPc := hP.sub (ws' := [(q_87, .inr (5, [.int 0, .int 0, .int 0, .int 0, .int 0, .null, .null]))]) [8] rfl
    have hDc := hD.sub (ws' := [(q_87, .inr (5, [.int 0, .int 0, .int 0, .int 0, .int 0, .null, .null]))]) [8] (by decide) rfl
    have hFc := va_free (wc := [(q_87, .inr (5, [.int 0, .int 0, .int 0, .int 0, .int 0, .null, .null]))]) hD hS hA [8] rfl
    refine va_callv (va_runIN (As := []) (rest := [.ref q_87]) ⟨hx, hb, hml, hown, ha⟩ (s_Parcel l D cI cJ cZ cO _ q_87) ⟨va_cnB 0 ha (gaI kd_X5_init) rfl rfl rfl (hN.m RX7 84 yX5_init "CongestionBench" (by decide +kernel)) (ha _ kz_X5) (by decide +kernel) ⟨Nat.le_of_ble_eq_true rfl, Nat.le_of_ble_eq_true rfl⟩, rfl, ha _ km_X5_init⟩ ⟨pw_blind, fun U hU hW => ⟨rfl, pw_start hU hW hPc hK hDc hN⟩⟩ rfl rfl hl.1 rfl (lv_room (Nat.le_of_ble_eq_true rfl)) dX7_sendAck_18 ⟨Nat.le_of_ble_eq_true rfl, Nat.le_of_ble_eq_true rfl⟩) hS (fun q _ h => hFc q h) hFc (fun u t H1 locs ht hvm hw hB hz1 hk1 hS => ?_)
    obtain ⟨q_89, hP1, hK1, hD1⟩ := hB
    rw [ht] at hP1
    obtain ⟨hP, hD⟩ := va_joinQ (wr := [(r0, rdC ov (va_rf ol) r1 r2 r3 r4 r5), (r1, chC cf cl zn 0), (r2, chC cf cl zn 1), (r3, chC cf cl zn 2), (h0, rcC n0 rv w0 h1), (h1, mkC h2), (h2, .inl (cJ, 4, .inr (.inl f))), (r4, chC cf cl zn 3)]) (w1 := [(q_87, .inr (5, [.int 0, .int 0, .int 0, .int 0, .int 0, .ref q_89, .null])), (q_89, .inl (cJ, 4, .inr (.inl (fun _ => 0))))]) hP hD [8] [0, 1, 2, 3, 4, 5, 6, 7] rfl rfl (by decide) (by decide) hk1 hFc hP1 hD1
    generalize H1 = H at hP hS ⊢
    have hP : va_P D vwCl ([(r0, rdC ov (va_rf ol) r1 r2 r3 r4 r5), (r1, chC cf cl zn 0), (r2, chC cf cl zn 1), (r3, chC cf cl zn 2), (h0, rcC n0 rv w0 h1), (h1, mkC h2), (h2, .inl (cJ, 4, .inr (.inl f))), (r4, chC cf cl zn 3), (q_87, .inr (5, [.int 0, .int 0, .int 0, .int 0, .int 0, .ref q_89, .null])), (q_89, .inl (cJ, 4, .inr (.inl (fun _ => 0))))] ++ va_pl L (pf cJ kd pi bd af bo)) H := hP
    have hD : va_D A ([(r0, rdC ov (va_rf ol) r1 r2 r3 r4 r5), (r1, chC cf cl zn 0), (r2, chC cf cl zn 1), (r3, chC cf cl zn 2), (h0, rcC n0 rv w0 h1), (h1, mkC h2), (h2, .inl (cJ, 4, .inr (.inl f))), (r4, chC cf cl zn 3), (q_87, .inr (5, [.int 0, .int 0, .int 0, .int 0, .int 0, .ref q_89, .null])), (q_89, .inl (cJ, 4, .inr (.inl (fun _ => 0))))] ++ va_pl L (pf cJ kd pi bd af bo)) := hD
    refine W.widen (k := 2) (n := 11) (Nat.le_of_ble_eq_true rfl) (Nat.le_of_ble_eq_true rfl) ?_
    have hP : va_P D vwCl (([(r0, rdC ov (va_rf ol) r1 r2 r3 r4 r5), (r1, chC cf cl zn 0), (r2, chC cf cl zn 1), (r3, chC cf cl zn 2), (h0, rcC n0 rv w0 h1), (h1, mkC h2), (h2, .inl (cJ, 4, .inr (.inl f))), (r4, chC cf cl zn 3)] ++ [(q_87, .inr (5, [.int 0, .int 0, .int 0, .int 0, .int 0, .ref q_89, va_rf none])), (q_89, .inl (cJ, 4, .inr (.inl (fun _ => 0))))]) ++ va_pl L (pf cJ kd pi bd af bo)) H := hP.part (X := [(r0, rdC ov (va_rf ol) r1 r2 r3 r4 r5), (r1, chC cf cl zn 0), (r2, chC cf cl zn 1), (r3, chC cf cl zn 2), (h0, rcC n0 rv w0 h1), (h1, mkC h2), (h2, .inl (cJ, 4, .inr (.inl f))), (r4, chC cf cl zn 3), (q_87, .inr (5, [.int 0, .int 0, .int 0, .int 0, .int 0, .ref q_89, va_rf none])), (q_89, .inl (cJ, 4, .inr (.inl (fun _ => 0))))]) (cx := [(r0, rdC ov (va_rf ol) r1 r2 r3 r4 r5), (r1, chC cf cl zn 0), (r2, chC cf cl zn 1), (r3, chC cf cl zn 2), (h0, rcC n0 rv w0 h1), (h1, mkC h2), (h2, .inl (cJ, 4, .inr (.inl f))), (r4, chC cf cl zn 3), (q_87, .inr (5, [.int 0, .int 0, .int 0, .int 0, .int 0, .ref q_89, va_rf none])), (q_89, .inl (cJ, 4, .inr (.inl (fun _ => 0))))]) (pl := va_pl L (pf cJ kd pi bd af bo)) [0, 1, 2, 3, 4, 5, 6, 7, 8, 9] rfl
    have hD : va_D A (([(r0, rdC ov (va_rf ol) r1 r2 r3 r4 r5), (r1, chC cf cl zn 0), (r2, chC cf cl zn 1), (r3, chC cf cl zn 2), (h0, rcC n0 rv w0 h1), (h1, mkC h2), (h2, .inl (cJ, 4, .inr (.inl f))), (r4, chC cf cl zn 3)] ++ [(q_87, .inr (5, [.int 0, .int 0, .int 0, .int 0, .int 0, .ref q_89, va_rf none])), (q_89, .inl (cJ, 4, .inr (.inl (fun _ => 0))))]) ++ va_pl L (pf cJ kd pi bd af bo)) := hD.part (X := [(r0, rdC ov (va_rf ol) r1 r2 r3 r4 r5), (r1, chC cf cl zn 0), (r2, chC cf cl zn 1), (r3, chC cf cl zn 2), (h0, rcC n0 rv w0 h1), (h1, mkC h2), (h2, .inl (cJ, 4, .inr (.inl f))), (r4, chC cf cl zn 3), (q_87, .inr (5, [.int 0, .int 0, .int 0, .int 0, .int 0, .ref q_89, va_rf none])), (q_89, .inl (cJ, 4, .inr (.inl (fun _ => 0))))]) (cx := [(r0, rdC ov (va_rf ol) r1 r2 r3 r4 r5), (r1, chC cf cl zn 0), (r2, chC cf cl zn 1), (r3, chC cf cl zn 2), (h0, rcC n0 rv w0 h1), (h1, mkC h2), (h2, .inl (cJ, 4, .inr (.inl f))), (r4, chC cf cl zn 3), (q_87, .inr (5, [.int 0, .int 0, .int 0, .int 0, .int 0, .ref q_89, va_rf none])), (q_89, .inl (cJ, 4, .inr (.inl (fun _ => 0))))]) (pl := va_pl L (pf cJ kd pi bd af bo)) [0, 1, 2, 3, 4, 5, 6, 7, 8, 9] (by decide) rfl
    have hP := va_P.swap (a := [(r0, rdC ov (va_rf ol) r1 r2 r3 r4 r5), (r1, chC cf cl zn 0), (r2, chC cf cl zn 1), (r3, chC cf cl zn 2), (h0, rcC n0 rv w0 h1), (h1, mkC h2), (h2, .inl (cJ, 4, .inr (.inl f))), (r4, chC cf cl zn 3)]) (b := [(q_87, .inr (5, [.int 0, .int 0, .int 0, .int 0, .int 0, .ref q_89, va_rf none])), (q_89, .inl (cJ, 4, .inr (.inl (fun _ => 0))))]) (c := va_pl L (pf cJ kd pi bd af bo)) hP
    have hD := va_D.swap (a := [(r0, rdC ov (va_rf ol) r1 r2 r3 r4 r5), (r1, chC cf cl zn 0), (r2, chC cf cl zn 1), (r3, chC cf cl zn 2), (h0, rcC n0 rv w0 h1), (h1, mkC h2), (h2, .inl (cJ, 4, .inr (.inl f))), (r4, chC cf cl zn 3)]) (b := [(q_87, .inr (5, [.int 0, .int 0, .int 0, .int 0, .int 0, .ref q_89, va_rf none])), (q_89, .inl (cJ, 4, .inr (.inl (fun _ => 0))))]) (c := va_pl L (pf cJ kd pi bd af bo)) hD
    obtain ⟨n_q_87b, n_q_89b⟩ := pl_apart (X := [(r0, rdC ov (va_rf ol) r1 r2 r3 r4 r5), (r1, chC cf cl zn 0), (r2, chC cf cl zn 1), (r3, chC cf cl zn 2), (h0, rcC n0 rv w0 h1), (h1, mkC h2), (h2, .inl (cJ, 4, .inr (.inl f))), (r4, chC cf cl zn 3)]) (f := pf cJ kd pi bd af bo) hD
    rw [pl_new n_q_87 n_q_89b.1 n_q_89b.2, pf_new n_q_89b.2] at hP hD
    have o_q_87 := QQ_ob hQ n_q_87
    have hQ := QQ_born hQ hR n_q_87 n_q_89b.1 hn3
    have hG := GG_born (v := fun _ => 0) hG hR hPB n_q_87 n_q_89b.1
    have hJ := JB_born hJ hPB n_q_87 n_q_89b.1 n_q_89b.2
    have hR := RI_born hR n_q_87 n_q_89b.1
    have hPB := PB_born hPB n_q_87 n_q_89b.1 n_q_89b.2
    have m_q_87 : q_87 ∈ L ++ [q_87, q_89] := by simp
    have k_q_87 : va_up (va_up kd q_87 false) q_89 true q_87 = false := by rw [va_up_ne _ _ n_q_89b.2, va_up_self]
    have t_q_87 : va_up tag q_87 6 q_87 = 6 := va_up_self _ _ _
    have hP : va_P D vwCl ([(r0, rdC ov (va_rf ol) r1 r2 r3 r4 r5), (r1, chC cf cl zn 0), (r2, chC cf cl zn 1), (r3, chC cf cl zn 2), (h0, rcC n0 rv w0 h1), (h1, mkC h2), (h2, .inl (cJ, 4, .inr (.inl f))), (r4, chC cf cl zn 3)] ++ va_pl (L ++ [q_87, q_89]) (pf cJ (va_up (va_up kd q_87 false) q_89 true) (fun k => va_up (pi k) q_87 0) (va_up bd q_87 q_89) (va_up af q_87 none) (va_up bo q_89 (fun _ => 0)))) H := hP
    have hD : va_D A ([(r0, rdC ov (va_rf ol) r1 r2 r3 r4 r5), (r1, chC cf cl zn 0), (r2, chC cf cl zn 1), (r3, chC cf cl zn 2), (h0, rcC n0 rv w0 h1), (h1, mkC h2), (h2, .inl (cJ, 4, .inr (.inl f))), (r4, chC cf cl zn 3)] ++ va_pl (L ++ [q_87, q_89]) (pf cJ (va_up (va_up kd q_87 false) q_89 true) (fun k => va_up (pi k) q_87 0) (va_up bd q_87 q_89) (va_up af q_87 none) (va_up bo q_89 (fun _ => 0)))) := hD
    generalize L ++ [q_87, q_89] = L at hP hD hR hPB hQ hJ m_q_87
    generalize va_up (va_up kd q_87 false) q_89 true = kd at hP hD hR hPB hQ hJ k_q_87
    generalize (fun k => va_up (pi k) q_87 0) = pi at hP hD hPB hQ hG
    generalize va_up bd q_87 q_89 = bd at hP hD hPB hG hJ
    generalize va_up af q_87 none = af at hP hD hR
    generalize va_up bo q_89 (fun _ => 0) = bo at hP hD hG
    generalize va_up tag q_87 6 = tag at hR hQ t_q_87
    refine lv_astore (lv' := [(4, .ref q_87), (0, .ref r0), (1, .ref h0), (2, .int n1), (3, .int n2)]) hx hb dX7_sendAck_21 hl (by decide) rfl (fun ls hl => ?_)
    refine lv_aload hx hb dX7_sendAck_23 (lv_at hl 0 rfl) ?_
    refine lv_aload_n hx hb dX7_sendAck_25 rfl (lv_at hl 2 rfl) ?_
    refine va_getN (D := D) (ci := 6) (v := .int n0) (C := RX6) (T := TX6) (N := 11) hx hb ha inlX6 hown hK hP 4 rfl rfl 0 (by decide) (va_Nw.use rfl (hN.f RX7 98 "CongestionBench$Receiver" "number" "I" "CongestionBench" (by decide +kernel))) (fun _ h9 => h9) rfl dX7_sendAck_26 ?_
    obtain ⟨k_90, hk_90⟩ := va_pl_get (X := [(r0, rdC ov (va_rf ol) r1 r2 r3 r4 r5), (r1, chC cf cl zn 0), (r2, chC cf cl zn 1), (r3, chC cf cl zn 2), (h0, rcC n0 rv w0 h1), (h1, mkC h2), (h2, .inl (cJ, 4, .inr (.inl f))), (r4, chC cf cl zn 3)]) (f := pf cJ kd pi bd af bo) m_q_87
    refine va_putN (D := D) (ci := 5) (v := .int n0) (ty := .int) (C := RX5) (T := TX5) (N := 7) hx hb ha inlX5 tyX5 tyX5_ok nmX5 hown hK hP hD hS k_90 (hk_90.trans (congrArg (fun z => some (q_87, z)) (pf_p k_q_87))) rfl 1 (by decide) (va_Nw.use rfl (hN.f RX7 85 "CongestionBench$Parcel" "flow" "I" "CongestionBench" (by decide +kernel))) (fun _ h9 => h9) rfl (by decide +kernel) rfl rfl (Nat.le_of_ble_eq_true rfl) dX7_sendAck_29 (fun H locs hP1 hD1 hS => ?_)
    have hP : va_P D vwCl ([(r0, rdC ov (va_rf ol) r1 r2 r3 r4 r5), (r1, chC cf cl zn 0), (r2, chC cf cl zn 1), (r3, chC cf cl zn 2), (h0, rcC n0 rv w0 h1), (h1, mkC h2), (h2, .inl (cJ, 4, .inr (.inl f))), (r4, chC cf cl zn 3)] ++ va_pl L (pf cJ kd (upp pi 1 q_87 n0) bd af bo)) H := by rw [← pf_u1 k_q_87, ← va_pl_set hD m_q_87 hk_90]; exact hP1
    have hD : va_D A ([(r0, rdC ov (va_rf ol) r1 r2 r3 r4 r5), (r1, chC cf cl zn 0), (r2, chC cf cl zn 1), (r3, chC cf cl zn 2), (h0, rcC n0 rv w0 h1), (h1, mkC h2), (h2, .inl (cJ, 4, .inr (.inl f))), (r4, chC cf cl zn 3)] ++ va_pl L (pf cJ kd (upp pi 1 q_87 n0) bd af bo)) := by rw [← pf_u1 k_q_87, ← va_pl_set hD m_q_87 hk_90]; exact hD1
    have hPB := PB_due (k := 1) (a := q_87) (x := n0) hPB (by decide)
    have hQ := QQ_pi (k := 1) (q := q_87) (x := n0) hQ hR t_q_87
    have hG := GG_pi (k := 1) (z := q_87) (x := n0) hG hR t_q_87
    generalize g_91 : upp pi 1 q_87 n0 = pi at hP hD hPB hQ hG
    have p1_q_87 : pi 1 q_87 = n0 := by rw [← g_91]; exact upp_eq
    refine lv_aload hx hb dX7_sendAck_32 (lv_at hl 0 rfl) ?_
    refine lv_aload_n hx hb dX7_sendAck_34 rfl (lv_at hl 2 rfl) ?_
    refine va_getN (D := D) (ci := 6) (v := .int (rv 2)) (C := RX6) (T := TX6) (N := 11) hx hb ha inlX6 hown hK hP 4 rfl rfl 2 (by decide) (va_Nw.use rfl (hN.f RX7 101 "CongestionBench$Receiver" "next" "I" "CongestionBench" (by decide +kernel))) (fun _ h9 => h9) rfl dX7_sendAck_35 ?_
    refine lv_topi (fun x_92 ex_92 => ?_)
    have hE := bd_at ex_92 hE
    obtain ⟨k_93, hk_93⟩ := va_pl_get (X := [(r0, rdC ov (va_rf ol) r1 r2 r3 r4 r5), (r1, chC cf cl zn 0), (r2, chC cf cl zn 1), (r3, chC cf cl zn 2), (h0, rcC n0 rv w0 h1), (h1, mkC h2), (h2, .inl (cJ, 4, .inr (.inl f))), (r4, chC cf cl zn 3)]) (f := pf cJ kd pi bd af bo) m_q_87
    refine va_putN (D := D) (ci := 5) (v := .int x_92) (ty := .int) (C := RX5) (T := TX5) (N := 7) hx hb ha inlX5 tyX5 tyX5_ok nmX5 hown hK hP hD hS k_93 (hk_93.trans (congrArg (fun z => some (q_87, z)) (pf_p k_q_87))) rfl 2 (by decide) (va_Nw.use rfl (hN.f RX7 88 "CongestionBench$Parcel" "number" "I" "CongestionBench" (by decide +kernel))) (fun _ h9 => h9) rfl (by decide +kernel) rfl rfl (Nat.le_of_ble_eq_true rfl) dX7_sendAck_38 (fun H locs hP1 hD1 hS => ?_)
    have hP : va_P D vwCl ([(r0, rdC ov (va_rf ol) r1 r2 r3 r4 r5), (r1, chC cf cl zn 0), (r2, chC cf cl zn 1), (r3, chC cf cl zn 2), (h0, rcC n0 rv w0 h1), (h1, mkC h2), (h2, .inl (cJ, 4, .inr (.inl f))), (r4, chC cf cl zn 3)] ++ va_pl L (pf cJ kd (upp pi 2 q_87 x_92) bd af bo)) H := by rw [← pf_u2 k_q_87, ← va_pl_set hD m_q_87 hk_93]; exact hP1
    have hD : va_D A ([(r0, rdC ov (va_rf ol) r1 r2 r3 r4 r5), (r1, chC cf cl zn 0), (r2, chC cf cl zn 1), (r3, chC cf cl zn 2), (h0, rcC n0 rv w0 h1), (h1, mkC h2), (h2, .inl (cJ, 4, .inr (.inl f))), (r4, chC cf cl zn 3)] ++ va_pl L (pf cJ kd (upp pi 2 q_87 x_92) bd af bo)) := by rw [← pf_u2 k_q_87, ← va_pl_set hD m_q_87 hk_93]; exact hD1
    have hPB := PB_due (k := 2) (a := q_87) (x := x_92) hPB (by decide)
    have hQ := QQ_pi (k := 2) (q := q_87) (x := x_92) hQ hR t_q_87
    have hG := GG_pi (k := 2) (z := q_87) (x := x_92) hG hR t_q_87
    generalize g_94 : upp pi 2 q_87 x_92 = pi at hP hD hPB hQ hG
    have p1_q_87 : pi 1 q_87 = n0 := by rw [← g_94]; exact (upp_ne (by decide)).trans p1_q_87
    have p2_q_87 : pi 2 q_87 = x_92 := by rw [← g_94]; exact upp_eq
    refine lv_aload hx hb dX7_sendAck_41 (lv_at hl 0 rfl) ?_
    refine lv_aload_n hx hb dX7_sendAck_43 rfl (lv_at hl 2 rfl) ?_
    refine va_getN (D := D) (ci := 6) (v := .int w0) (C := RX6) (T := TX6) (N := 11) hx hb ha inlX6 hown hK hP 4 rfl rfl 3 (by decide) (va_Nw.use rfl (hN.f RX7 104 "CongestionBench$Receiver" "window" "I" "CongestionBench" (by decide +kernel))) (fun _ h9 => h9) rfl dX7_sendAck_44 ?_
    obtain ⟨k_95, hk_95⟩ := va_pl_get (X := [(r0, rdC ov (va_rf ol) r1 r2 r3 r4 r5), (r1, chC cf cl zn 0), (r2, chC cf cl zn 1), (r3, chC cf cl zn 2), (h0, rcC n0 rv w0 h1), (h1, mkC h2), (h2, .inl (cJ, 4, .inr (.inl f))), (r4, chC cf cl zn 3)]) (f := pf cJ kd pi bd af bo) m_q_87
    refine va_putN (D := D) (ci := 5) (v := .int w0) (ty := .int) (C := RX5) (T := TX5) (N := 7) hx hb ha inlX5 tyX5 tyX5_ok nmX5 hown hK hP hD hS k_95 (hk_95.trans (congrArg (fun z => some (q_87, z)) (pf_p k_q_87))) rfl 4 (by decide) (va_Nw.use rfl (hN.f RX7 107 "CongestionBench$Parcel" "window" "I" "CongestionBench" (by decide +kernel))) (fun _ h9 => h9) rfl (by decide +kernel) rfl rfl (Nat.le_of_ble_eq_true rfl) dX7_sendAck_47 (fun H locs hP1 hD1 hS => ?_)
    have hP : va_P D vwCl ([(r0, rdC ov (va_rf ol) r1 r2 r3 r4 r5), (r1, chC cf cl zn 0), (r2, chC cf cl zn 1), (r3, chC cf cl zn 2), (h0, rcC n0 rv w0 h1), (h1, mkC h2), (h2, .inl (cJ, 4, .inr (.inl f))), (r4, chC cf cl zn 3)] ++ va_pl L (pf cJ kd (upp pi 4 q_87 w0) bd af bo)) H := by rw [← pf_u4 k_q_87, ← va_pl_set hD m_q_87 hk_95]; exact hP1
    have hD : va_D A ([(r0, rdC ov (va_rf ol) r1 r2 r3 r4 r5), (r1, chC cf cl zn 0), (r2, chC cf cl zn 1), (r3, chC cf cl zn 2), (h0, rcC n0 rv w0 h1), (h1, mkC h2), (h2, .inl (cJ, 4, .inr (.inl f))), (r4, chC cf cl zn 3)] ++ va_pl L (pf cJ kd (upp pi 4 q_87 w0) bd af bo)) := by rw [← pf_u4 k_q_87, ← va_pl_set hD m_q_87 hk_95]; exact hD1
    have hPB := PB_due (k := 4) (a := q_87) (x := w0) hPB (by decide)
    have hQ := QQ_pi (k := 4) (q := q_87) (x := w0) hQ hR t_q_87
    have hG := GG_pi (k := 4) (z := q_87) (x := w0) hG hR t_q_87
    generalize g_96 : upp pi 4 q_87 w0 = pi at hP hD hPB hQ hG
    have p1_q_87 : pi 1 q_87 = n0 := by rw [← g_96]; exact (upp_ne (by decide)).trans p1_q_87
    have p2_q_87 : pi 2 q_87 = x_92 := by rw [← g_96]; exact (upp_ne (by decide)).trans p2_q_87
    have p4_q_87 : pi 4 q_87 = w0 := by rw [← g_96]; exact upp_eq
    refine lv_aload hx hb dX7_sendAck_50 (lv_at hl 0 rfl) ?_
    refine lv_iload_n hx hb dX7_sendAck_52 rfl (lv_at hl 3 rfl) ?_
    obtain ⟨k_97, hk_97⟩ := va_pl_get (X := [(r0, rdC ov (va_rf ol) r1 r2 r3 r4 r5), (r1, chC cf cl zn 0), (r2, chC cf cl zn 1), (r3, chC cf cl zn 2), (h0, rcC n0 rv w0 h1), (h1, mkC h2), (h2, .inl (cJ, 4, .inr (.inl f))), (r4, chC cf cl zn 3)]) (f := pf cJ kd pi bd af bo) m_q_87
    refine va_putN (D := D) (ci := 5) (v := .int n1) (ty := .boolean) (C := RX5) (T := TX5) (N := 7) hx hb ha inlX5 tyX5 tyX5_ok nmX5 hown hK hP hD hS k_97 (hk_97.trans (congrArg (fun z => some (q_87, z)) (pf_p k_q_87))) rfl 3 (by decide) (va_Nw.use rfl (hN.f RX7 91 "CongestionBench$Parcel" "special" "Z" "CongestionBench" (by decide +kernel))) (fun _ h9 => h9) rfl (by decide +kernel) (by rcases hz with h | h <;> rw [h] <;> rfl) (by rcases hz with h | h <;> rw [h] <;> rfl) (Nat.le_of_ble_eq_true rfl) dX7_sendAck_53 (fun H locs hP1 hD1 hS => ?_)
    have hP : va_P D vwCl ([(r0, rdC ov (va_rf ol) r1 r2 r3 r4 r5), (r1, chC cf cl zn 0), (r2, chC cf cl zn 1), (r3, chC cf cl zn 2), (h0, rcC n0 rv w0 h1), (h1, mkC h2), (h2, .inl (cJ, 4, .inr (.inl f))), (r4, chC cf cl zn 3)] ++ va_pl L (pf cJ kd (upp pi 3 q_87 n1) bd af bo)) H := by rw [← pf_u3 k_q_87, ← va_pl_set hD m_q_87 hk_97]; exact hP1
    have hD : va_D A ([(r0, rdC ov (va_rf ol) r1 r2 r3 r4 r5), (r1, chC cf cl zn 0), (r2, chC cf cl zn 1), (r3, chC cf cl zn 2), (h0, rcC n0 rv w0 h1), (h1, mkC h2), (h2, .inl (cJ, 4, .inr (.inl f))), (r4, chC cf cl zn 3)] ++ va_pl L (pf cJ kd (upp pi 3 q_87 n1) bd af bo)) := by rw [← pf_u3 k_q_87, ← va_pl_set hD m_q_87 hk_97]; exact hD1
    have hPB := PB_spec (a := q_87) (x := n1) hPB hz
    have hQ := QQ_pi (k := 3) (q := q_87) (x := n1) hQ hR t_q_87
    have hG := GG_pi (k := 3) (z := q_87) (x := n1) hG hR t_q_87
    generalize g_98 : upp pi 3 q_87 n1 = pi at hP hD hPB hQ hG
    have p1_q_87 : pi 1 q_87 = n0 := by rw [← g_98]; exact (upp_ne (by decide)).trans p1_q_87
    have p2_q_87 : pi 2 q_87 = x_92 := by rw [← g_98]; exact (upp_ne (by decide)).trans p2_q_87
    have p4_q_87 : pi 4 q_87 = w0 := by rw [← g_98]; exact (upp_ne (by decide)).trans p4_q_87
    have p3_q_87 : pi 3 q_87 = n1 := by rw [← g_98]; exact upp_eq
    refine lv_aload_n hx hb dX7_sendAck_56 rfl (lv_at hl 2 rfl) ?_
    refine va_getN (D := D) (ci := 6) (v := .ref h1) (C := RX6) (T := TX6) (N := 11) hx hb ha inlX6 hown hK hP 4 rfl rfl 4 (by decide) (va_Nw.use rfl (hN.f RX7 108 "CongestionBench$Receiver" "kept" "LCongestionBench$Marks;" "CongestionBench" (by decide +kernel))) (fun _ h9 => h9) rfl dX7_sendAck_57 ?_
    refine lv_aload hx hb dX7_sendAck_60 (lv_at hl 0 rfl) ?_
    obtain ⟨k_99, hk_99⟩ := va_pl_get (X := [(r0, rdC ov (va_rf ol) r1 r2 r3 r4 r5), (r1, chC cf cl zn 0), (r2, chC cf cl zn 1), (r3, chC cf cl zn 2), (h0, rcC n0 rv w0 h1), (h1, mkC h2), (h2, .inl (cJ, 4, .inr (.inl f))), (r4, chC cf cl zn 3)]) (f := pf cJ kd pi bd af bo) m_q_87
    refine va_getN (D := D) (ci := 5) (v := .ref (bd q_87)) (C := RX5) (T := TX5) (N := 7) hx hb ha inlX5 hown hK hP k_99 (hk_99.trans (congrArg (fun z => some (q_87, z)) (pf_p k_q_87))) rfl 5 (by decide) (va_Nw.use rfl (hN.f RX7 112 "CongestionBench$Parcel" "board" "[J" "CongestionBench" (by decide +kernel))) (fun _ h9 => h9) rfl dX7_sendAck_62 ?_
    have hPc := hP.part (X := [(r0, rdC ov (va_rf ol) r1 r2 r3 r4 r5), (r1, chC cf cl zn 0), (r2, chC cf cl zn 1), (r3, chC cf cl zn 2), (h0, rcC n0 rv w0 h1), (h1, mkC h2), (h2, .inl (cJ, 4, .inr (.inl f))), (r4, chC cf cl zn 3)]) (cx := [(h1, mkC h2), (h2, .inl (cJ, 4, .inr (.inl f)))]) (pl := va_pl L (pf cJ kd pi bd af bo)) [5, 6] rfl
    have hDc := hD.part (X := [(r0, rdC ov (va_rf ol) r1 r2 r3 r4 r5), (r1, chC cf cl zn 0), (r2, chC cf cl zn 1), (r3, chC cf cl zn 2), (h0, rcC n0 rv w0 h1), (h1, mkC h2), (h2, .inl (cJ, 4, .inr (.inl f))), (r4, chC cf cl zn 3)]) (cx := [(h1, mkC h2), (h2, .inl (cJ, 4, .inr (.inl f)))]) (pl := va_pl L (pf cJ kd pi bd af bo)) [5, 6] (by decide) rfl
    have hFc := va_freeP (X := [(r0, rdC ov (va_rf ol) r1 r2 r3 r4 r5), (r1, chC cf cl zn 0), (r2, chC cf cl zn 1), (r3, chC cf cl zn 2), (h0, rcC n0 rv w0 h1), (h1, mkC h2), (h2, .inl (cJ, 4, .inr (.inl f))), (r4, chC cf cl zn 3)]) (cx := [(h1, mkC h2), (h2, .inl (cJ, 4, .inr (.inl f)))]) (pl := va_pl L (pf cJ kd pi bd af bo)) hD hS hA [5, 6] rfl
    refine va_callv (va_runV (As := [.ref (bd q_87)]) (rest := []) ⟨hx, hb, hml, hown, ha⟩ (s_writeToP l D cI cJ cZ cO _ h1 h2 (bd q_87) f L kd pi bd af bo (hPB q_87 m_q_87 k_q_87).1 (hPB q_87 m_q_87 k_q_87).2.1) (cwV 1 ha (gaV kl_X7_116 km_X4_writeTo ks_X4_writeTo kz_X4 kd_X4_writeTo) rfl rfl rfl (by decide +kernel) ⟨Nat.le_of_ble_eq_true rfl, Nat.le_of_ble_eq_true rfl⟩) ⟨pw_blind, va_recv hK hPc (ci := 4) (q0 := 0) rfl rfl, fun U hU hW => ⟨rfl, pw_start hU hW hPc hK hDc hN⟩⟩ rfl rfl hl.1 rfl (lv_room (Nat.le_of_ble_eq_true rfl)) dX7_sendAck_65 ⟨Nat.le_of_ble_eq_true rfl, Nat.le_of_ble_eq_true rfl⟩) hS (fun q _ h => hFc q h) hFc (fun u t H1 locs ht hvm hw hB hz1 hk1 hS => ?_)
    obtain ⟨f, q_102, ⟨hf_103, hX0⟩, hP1, hK1, hD1⟩ := hB
    have hE := bd_at rfl hE
    have hE := bd_at hX0 hE
    rw [ht] at hP1
    obtain ⟨hP, hD⟩ := va_joinP (wr := [(r0, rdC ov (va_rf ol) r1 r2 r3 r4 r5), (r1, chC cf cl zn 0), (r2, chC cf cl zn 1), (r3, chC cf cl zn 2), (h0, rcC n0 rv w0 h1), (r4, chC cf cl zn 3)]) (rx := [(h1, mkC h2), (h2, .inl (cJ, 4, .inr (.inl f)))]) (pl1 := va_pl L (pf cJ kd pi bd af q_102)) hP hD [5, 6] [0, 1, 2, 3, 4, 7] rfl rfl (by decide) (by decide) hk1 hFc hP1 hD1
    generalize H1 = H at hP hS ⊢
    have hP : va_P D vwCl ([(r0, rdC ov (va_rf ol) r1 r2 r3 r4 r5), (r1, chC cf cl zn 0), (r2, chC cf cl zn 1), (r3, chC cf cl zn 2), (h0, rcC n0 rv w0 h1), (r4, chC cf cl zn 3), (h1, mkC h2), (h2, .inl (cJ, 4, .inr (.inl f)))] ++ va_pl L (pf cJ kd pi bd af q_102)) H := hP
    have hD : va_D A ([(r0, rdC ov (va_rf ol) r1 r2 r3 r4 r5), (r1, chC cf cl zn 0), (r2, chC cf cl zn 1), (r3, chC cf cl zn 2), (h0, rcC n0 rv w0 h1), (r4, chC cf cl zn 3), (h1, mkC h2), (h2, .inl (cJ, 4, .inr (.inl f)))] ++ va_pl L (pf cJ kd pi bd af q_102)) := hD
    refine W.widen (k := 2) (n := 11) (Nat.le_of_ble_eq_true rfl) (Nat.le_of_ble_eq_true rfl) ?_
    have hG := GG_bo hG hR hJ m_q_87 k_q_87 t_q_87 hf_103.2
    have hrow := hf_103.1
    refine lv_aload hx hb dX7_sendAck_68 (lv_at hl 0 rfl) ?_
    refine lv_iload_n hx hb dX7_sendAck_70 rfl (lv_at hl 4 rfl) ?_
    refine lv_aload_n hx hb dX7_sendAck_71 rfl (lv_at hl 1 rfl) ?_
    refine va_get (D := D) (ci := 7) (v := .int (ov 3)) (C := RX7) (T := TX7) (N := 15) hx hb ha inlX7 hown hK hP 0 rfl rfl 3 (by decide) (ha _ kf_X7_21) (fun _ h9 => h9) rfl dX7_sendAck_72 ?_
    refine lv_topi (fun x_104 ex_104 => ?_)
    have hE := bd_at ex_104 hE
    refine lv_iadd hx hb dX7_sendAck_75 ?_
    refine lv_topi (fun x_105 ex_105 => ?_)
    have hE := bd_at ex_105 hE
    obtain ⟨k_106, hk_106⟩ := va_pl_get (X := [(r0, rdC ov (va_rf ol) r1 r2 r3 r4 r5), (r1, chC cf cl zn 0), (r2, chC cf cl zn 1), (r3, chC cf cl zn 2), (h0, rcC n0 rv w0 h1), (r4, chC cf cl zn 3), (h1, mkC h2), (h2, .inl (cJ, 4, .inr (.inl f)))]) (f := pf cJ kd pi bd af q_102) m_q_87
    refine va_putN (D := D) (ci := 5) (v := .int x_105) (ty := .int) (C := RX5) (T := TX5) (N := 7) hx hb ha inlX5 tyX5 tyX5_ok nmX5 hown hK hP hD hS k_106 (hk_106.trans (congrArg (fun z => some (q_87, z)) (pf_p k_q_87))) rfl 0 (by decide) (va_Nw.use rfl (hN.f RX7 58 "CongestionBench$Parcel" "due" "I" "CongestionBench" (by decide +kernel))) (fun _ h9 => h9) rfl (by decide +kernel) rfl rfl (Nat.le_of_ble_eq_true rfl) dX7_sendAck_76 (fun H locs hP1 hD1 hS => ?_)
    have hP : va_P D vwCl ([(r0, rdC ov (va_rf ol) r1 r2 r3 r4 r5), (r1, chC cf cl zn 0), (r2, chC cf cl zn 1), (r3, chC cf cl zn 2), (h0, rcC n0 rv w0 h1), (r4, chC cf cl zn 3), (h1, mkC h2), (h2, .inl (cJ, 4, .inr (.inl f)))] ++ va_pl L (pf cJ kd (upp pi 0 q_87 x_105) bd af q_102)) H := by rw [← pf_u0 k_q_87, ← va_pl_set hD m_q_87 hk_106]; exact hP1
    have hD : va_D A ([(r0, rdC ov (va_rf ol) r1 r2 r3 r4 r5), (r1, chC cf cl zn 0), (r2, chC cf cl zn 1), (r3, chC cf cl zn 2), (h0, rcC n0 rv w0 h1), (r4, chC cf cl zn 3), (h1, mkC h2), (h2, .inl (cJ, 4, .inr (.inl f)))] ++ va_pl L (pf cJ kd (upp pi 0 q_87 x_105) bd af q_102)) := by rw [← pf_u0 k_q_87, ← va_pl_set hD m_q_87 hk_106]; exact hD1
    have hPB := PB_due (k := 0) (a := q_87) (x := x_105) hPB (by decide)
    have hQ := QQ_pi (k := 0) (q := q_87) (x := x_105) hQ hR t_q_87
    have hG := GG_pi (k := 0) (z := q_87) (x := x_105) hG hR t_q_87
    generalize g_107 : upp pi 0 q_87 x_105 = pi at hP hD hPB hQ hG
    have p1_q_87 : pi 1 q_87 = n0 := by rw [← g_107]; exact (upp_ne (by decide)).trans p1_q_87
    have p2_q_87 : pi 2 q_87 = x_92 := by rw [← g_107]; exact (upp_ne (by decide)).trans p2_q_87
    have p3_q_87 : pi 3 q_87 = n1 := by rw [← g_107]; exact (upp_ne (by decide)).trans p3_q_87
    have p4_q_87 : pi 4 q_87 = w0 := by rw [← g_107]; exact (upp_ne (by decide)).trans p4_q_87
    have p0_q_87 : pi 0 q_87 = x_105 := by rw [← g_107]; exact upp_eq
    have p_q_87 := p0_q_87
    refine lv_aload_n hx hb dX7_sendAck_79 rfl (lv_at hl 1 rfl) ?_
    refine va_get (D := D) (ci := 7) (v := .ref r3) (C := RX7) (T := TX7) (N := 15) hx hb ha inlX7 hown hK hP 0 rfl rfl 7 (by decide) (ha _ kf_X7_34) (fun _ h9 => h9) rfl dX7_sendAck_80 ?_
    refine lv_aload hx hb dX7_sendAck_83 (lv_at hl 0 rfl) ?_
    have hPc := hP.part (X := [(r0, rdC ov (va_rf ol) r1 r2 r3 r4 r5), (r1, chC cf cl zn 0), (r2, chC cf cl zn 1), (r3, chC cf cl zn 2), (h0, rcC n0 rv w0 h1), (r4, chC cf cl zn 3), (h1, mkC h2), (h2, .inl (cJ, 4, .inr (.inl f)))]) (cx := [(r3, chC cf cl zn 2)]) (pl := va_pl L (pf cJ kd pi bd af q_102)) [3] rfl
    have hDc := hD.part (X := [(r0, rdC ov (va_rf ol) r1 r2 r3 r4 r5), (r1, chC cf cl zn 0), (r2, chC cf cl zn 1), (r3, chC cf cl zn 2), (h0, rcC n0 rv w0 h1), (r4, chC cf cl zn 3), (h1, mkC h2), (h2, .inl (cJ, 4, .inr (.inl f)))]) (cx := [(r3, chC cf cl zn 2)]) (pl := va_pl L (pf cJ kd pi bd af q_102)) [3] (by decide) rfl
    have hFc := va_freeP (X := [(r0, rdC ov (va_rf ol) r1 r2 r3 r4 r5), (r1, chC cf cl zn 0), (r2, chC cf cl zn 1), (r3, chC cf cl zn 2), (h0, rcC n0 rv w0 h1), (r4, chC cf cl zn 3), (h1, mkC h2), (h2, .inl (cJ, 4, .inr (.inl f)))]) (cx := [(r3, chC cf cl zn 2)]) (pl := va_pl L (pf cJ kd pi bd af q_102)) hD hS hA [3] rfl
    refine va_callv (va_runV (As := [.ref q_87]) (rest := []) ⟨hx, hb, hml, hown, ha⟩ (s_putByDue l D cI cJ cZ cO _ r3 q_87 L kd pi bd af q_102 (cf 2) (cl 2) (zn 2) (xl 2) m_q_87 k_q_87 (hR.1 2 (by decide)).1 (RI_mem hR (by decide)) (hR.1 2 (by decide)).2.1 (RI_notin hR (by decide) t_q_87)) (cwV 1 ha (gaV kl_X7_63 km_X1_putByDue ks_X1_putByDue kz_X1 kd_X1_putByDue) rfl rfl rfl (by decide +kernel) ⟨Nat.le_of_ble_eq_true rfl, Nat.le_of_ble_eq_true rfl⟩) ⟨pw_blind, va_recv hK hPc (ci := 1) (q0 := 0) rfl rfl, fun U hU hW => ⟨rfl, pw_start hU hW hPc hK hDc hN⟩⟩ rfl rfl hl.1 rfl (lv_room (Nat.le_of_ble_eq_true rfl)) dX7_sendAck_85 ⟨Nat.le_of_ble_eq_true rfl, Nat.le_of_ble_eq_true rfl⟩) hS (fun q _ h => hFc q h) hFc (fun u t H1 locs ht hvm hw hB hz1 hk1 hS => ?_)
    obtain ⟨q_109, q_110, q_111, q_112, q_113, hf_114, hP1, hK1, hD1⟩ := hB
    rw [ht] at hP1
    obtain ⟨hP, hD⟩ := va_joinP (wr := [(r0, rdC ov (va_rf ol) r1 r2 r3 r4 r5), (r1, chC cf cl zn 0), (r2, chC cf cl zn 1), (h0, rcC n0 rv w0 h1), (r4, chC cf cl zn 3), (h1, mkC h2), (h2, .inl (cJ, 4, .inr (.inl f)))]) (rx := [(r3, .inr (1, [va_rf q_109, va_rf q_110, .int ((zn 2) + 1)]))]) (pl1 := va_pl L (pf cJ kd pi bd q_111 q_102)) hP hD [3] [0, 1, 2, 4, 5, 6, 7] rfl rfl (by decide) (by decide) hk1 hFc hP1 hD1
    generalize H1 = H at hP hS ⊢
    have hP : va_P D vwCl ([(r0, rdC ov (va_rf ol) r1 r2 r3 r4 r5), (r1, chC cf cl zn 0), (r2, chC cf cl zn 1), (h0, rcC n0 rv w0 h1), (r4, chC cf cl zn 3), (h1, mkC h2), (h2, .inl (cJ, 4, .inr (.inl f))), (r3, .inr (1, [va_rf q_109, va_rf q_110, .int ((zn 2) + 1)]))] ++ va_pl L (pf cJ kd pi bd q_111 q_102)) H := hP
    have hD : va_D A ([(r0, rdC ov (va_rf ol) r1 r2 r3 r4 r5), (r1, chC cf cl zn 0), (r2, chC cf cl zn 1), (h0, rcC n0 rv w0 h1), (r4, chC cf cl zn 3), (h1, mkC h2), (h2, .inl (cJ, 4, .inr (.inl f))), (r3, .inr (1, [va_rf q_109, va_rf q_110, .int ((zn 2) + 1)]))] ++ va_pl L (pf cJ kd pi bd q_111 q_102)) := hD
    refine W.widen (k := 2) (n := 11) (Nat.le_of_ble_eq_true rfl) (Nat.le_of_ble_eq_true rfl) ?_
    have hZ := ZN_put (q := q_87) hZ (by decide) hf_114.1
    have hG := GG_put2 hG (hQ.2.2.1.2 hS2) hf_114.1 hf_114.2.2.2
    rw [show ca pi bd q_102 q_87 = (x_105, n0, x_92, n1, w0, rw4 f) by unfold ca; rw [p0_q_87, p1_q_87, p2_q_87, p3_q_87, p4_q_87, hrow, hX0]; rfl] at hG
    generalize hgh_115 : insA (x_105, n0, x_92, n1, w0, rw4 f) ga = ga at hG
    have hE := bs_at hgh_115 hE
    have hQ := QQ_put2 hQ o_q_87 hf_114.1 ⟨hf_114.2.2.2.1, fun c hc => Int32.le_of_lt (hf_114.2.2.2.2 c hc)⟩
    rw [p_q_87, ex_105, ex_104] at hQ
    have hR := RI_put hR (by decide) m_q_87 k_q_87 t_q_87 ⟨hf_114.1, hf_114.2.1, hf_114.2.2.1⟩
    have hP : va_P D vwCl ([(r0, rdC ov (va_rf ol) r1 r2 r3 r4 r5), (r1, .inr (1, [va_rf (va_up cf 2 q_109 0), va_rf (va_up cl 2 q_110 0), .int (va_up zn 2 (zn 2 + 1) 0)])), (r2, .inr (1, [va_rf (va_up cf 2 q_109 1), va_rf (va_up cl 2 q_110 1), .int (va_up zn 2 (zn 2 + 1) 1)])), (h0, rcC n0 rv w0 h1), (r4, .inr (1, [va_rf (va_up cf 2 q_109 3), va_rf (va_up cl 2 q_110 3), .int (va_up zn 2 (zn 2 + 1) 3)])), (h1, mkC h2), (h2, .inl (cJ, 4, .inr (.inl f))), (r3, .inr (1, [va_rf (va_up cf 2 q_109 2), va_rf (va_up cl 2 q_110 2), .int (va_up zn 2 (zn 2 + 1) 2)]))] ++ va_pl L (pf cJ kd pi bd q_111 q_102)) H := hP
    have hD : va_D A ([(r0, rdC ov (va_rf ol) r1 r2 r3 r4 r5), (r1, .inr (1, [va_rf (va_up cf 2 q_109 0), va_rf (va_up cl 2 q_110 0), .int (va_up zn 2 (zn 2 + 1) 0)])), (r2, .inr (1, [va_rf (va_up cf 2 q_109 1), va_rf (va_up cl 2 q_110 1), .int (va_up zn 2 (zn 2 + 1) 1)])), (h0, rcC n0 rv w0 h1), (r4, .inr (1, [va_rf (va_up cf 2 q_109 3), va_rf (va_up cl 2 q_110 3), .int (va_up zn 2 (zn 2 + 1) 3)])), (h1, mkC h2), (h2, .inl (cJ, 4, .inr (.inl f))), (r3, .inr (1, [va_rf (va_up cf 2 q_109 2), va_rf (va_up cl 2 q_110 2), .int (va_up zn 2 (zn 2 + 1) 2)]))] ++ va_pl L (pf cJ kd pi bd q_111 q_102)) := hD
    generalize g_116 : va_up cf 2 q_109 = cf at hP hD hR hn3
    generalize g_117 : va_up cl 2 q_110 = cl at hP hD hR
    generalize g_118 : va_up zn 2 (zn 2 + 1) = zn at hP hD hZ
    generalize g_119 : va_up xl 2 (q_112 ++ q_87 :: q_113) = xl at hR hZ hQ hG
    generalize g_120 : va_up tag q_87 2 = tag at hR hQ
    refine W.know2 (fun hk1 hk2 => ?_)
    have hgr : gr s.heap _ 1 := ⟨hk1, hk2⟩
    have hP9 : va_P D vwCl ([(r0, rdC ov (va_rf ol) r1 r2 r3 r4 r5), (r1, chC cf cl zn 0), (r2, chC cf cl zn 1), (r3, chC cf cl zn 2), (r4, chC cf cl zn 3), (h0, rcC n0 rv w0 h1), (h1, mkC h2), (h2, .inl (cJ, 4, .inr (.inl f)))] ++ va_pl L (pf cJ kd pi bd q_111 q_102)) _ := hP.part [0, 1, 2, 7, 4, 3, 5, 6] rfl
    have hD9 : va_D A ([(r0, rdC ov (va_rf ol) r1 r2 r3 r4 r5), (r1, chC cf cl zn 0), (r2, chC cf cl zn 1), (r3, chC cf cl zn 2), (r4, chC cf cl zn 3), (h0, rcC n0 rv w0 h1), (h1, mkC h2), (h2, .inl (cJ, 4, .inr (.inl f)))] ++ va_pl L (pf cJ kd pi bd q_111 q_102)) := hD.part [0, 1, 2, 7, 4, 3, 5, 6] (by decide) rfl
    exact W.vret hx hb hr (fun t ht hW => ⟨⟨(), rfl, trivial, ⟨cf, cl, zn, xl, tag, f, L, kd, pi, bd, q_111, q_102, 1, ga, ⟨⟨hR, hPB, hZ, by rw [ht]; exact hgr, by decide, hQ⟩, ⟨hG, hJ⟩, (by rw [← hRES, hE]), (by rw [← hRES, hE])⟩, by rw [ht]; exact hP9, va_K.moved hW.alike hK, hD9⟩⟩, hS.F ht⟩) hS.2.2 dX7_sendAck_88
  | some z_80 =>
    rw [ho_81] at hR hZ hP hD
    have m_z_80 := (RI_hd hR0 (i := 3) (by decide) ho_81).1
    have k_z_80 := (RI_hd hR0 (i := 3) (by decide) ho_81).2.1
    have t_z_80 := (show tk_tag tag (some z_80) z_80 = 6 from va_up_self tag z_80 6)
    have o_z_80 := QQ_o hQ (q := z_80) (by rw [RI_tg hR0 (i := 3) (by decide) ho_81]; decide)
    have hQ := QQ_tks3 hQ hR0 ho_81
    have hG := GG_x3 (l := (xl 3).tail) hG
    have hP : va_P D vwCl ([(r0, rdC ov (va_rf ol) r1 r2 r3 r4 r5), (r1, .inr (1, [va_rf (va_up cf 3 (tk_fi af (some z_80)) 0), va_rf (va_up cl 3 (tk_la af (some z_80) (cl 3)) 0), .int (va_up zn 3 (tk_n (some z_80) (zn 3)) 0)])), (r2, .inr (1, [va_rf (va_up cf 3 (tk_fi af (some z_80)) 1), va_rf (va_up cl 3 (tk_la af (some z_80) (cl 3)) 1), .int (va_up zn 3 (tk_n (some z_80) (zn 3)) 1)])), (r3, .inr (1, [va_rf (va_up cf 3 (tk_fi af (some z_80)) 2), va_rf (va_up cl 3 (tk_la af (some z_80) (cl 3)) 2), .int (va_up zn 3 (tk_n (some z_80) (zn 3)) 2)])), (h0, rcC n0 rv w0 h1), (h1, mkC h2), (h2, .inl (cJ, 4, .inr (.inl f))), (r4, .inr (1, [va_rf (va_up cf 3 (tk_fi af (some z_80)) 3), va_rf (va_up cl 3 (tk_la af (some z_80) (cl 3)) 3), .int (va_up zn 3 (tk_n (some z_80) (zn 3)) 3)]))] ++ va_pl L (pf cJ kd pi bd (tk_af af (some z_80)) bo)) H := hP
    have hD : va_D A ([(r0, rdC ov (va_rf ol) r1 r2 r3 r4 r5), (r1, .inr (1, [va_rf (va_up cf 3 (tk_fi af (some z_80)) 0), va_rf (va_up cl 3 (tk_la af (some z_80) (cl 3)) 0), .int (va_up zn 3 (tk_n (some z_80) (zn 3)) 0)])), (r2, .inr (1, [va_rf (va_up cf 3 (tk_fi af (some z_80)) 1), va_rf (va_up cl 3 (tk_la af (some z_80) (cl 3)) 1), .int (va_up zn 3 (tk_n (some z_80) (zn 3)) 1)])), (r3, .inr (1, [va_rf (va_up cf 3 (tk_fi af (some z_80)) 2), va_rf (va_up cl 3 (tk_la af (some z_80) (cl 3)) 2), .int (va_up zn 3 (tk_n (some z_80) (zn 3)) 2)])), (h0, rcC n0 rv w0 h1), (h1, mkC h2), (h2, .inl (cJ, 4, .inr (.inl f))), (r4, .inr (1, [va_rf (va_up cf 3 (tk_fi af (some z_80)) 3), va_rf (va_up cl 3 (tk_la af (some z_80) (cl 3)) 3), .int (va_up zn 3 (tk_n (some z_80) (zn 3)) 3)]))] ++ va_pl L (pf cJ kd pi bd (tk_af af (some z_80)) bo)) := hD
    generalize g_121 : va_up cf 3 (tk_fi af (some z_80)) = cf at hP hD hR
    generalize g_122 : va_up cl 3 (tk_la af (some z_80) (cl 3)) = cl at hP hD hR
    generalize g_123 : va_up zn 3 (tk_n (some z_80) (zn 3)) = zn at hP hD hZ
    generalize g_124 : va_up xl 3 (xl 3).tail = xl at hR hZ hQ hG
    generalize g_125 : tk_tag tag (some z_80) = tag at hR hQ t_z_80
    generalize (tk_af af (some z_80)) = af at hP hD hR
    refine lv_astore (lv' := [(4, .ref z_80), (0, .ref r0), (1, .ref h0), (2, .int n1), (3, .int n2)]) hx hb dX7_sendAck_7 hl (by decide) rfl (fun ls hl => ?_)
    refine lv_aload hx hb dX7_sendAck_9 (lv_at hl 0 rfl) ?_
    refine lv_ifnonnull (tgt := 23) hx hb dX7_sendAck_11 (by decide) ?_
    refine lv_aload hx hb dX7_sendAck_23 (lv_at hl 0 rfl) ?_
    refine lv_aload_n hx hb dX7_sendAck_25 rfl (lv_at hl 2 rfl) ?_
    refine va_getN (D := D) (ci := 6) (v := .int n0) (C := RX6) (T := TX6) (N := 11) hx hb ha inlX6 hown hK hP 4 rfl rfl 0 (by decide) (va_Nw.use rfl (hN.f RX7 98 "CongestionBench$Receiver" "number" "I" "CongestionBench" (by decide +kernel))) (fun _ h9 => h9) rfl dX7_sendAck_26 ?_
    obtain ⟨k_126, hk_126⟩ := va_pl_get (X := [(r0, rdC ov (va_rf ol) r1 r2 r3 r4 r5), (r1, chC cf cl zn 0), (r2, chC cf cl zn 1), (r3, chC cf cl zn 2), (h0, rcC n0 rv w0 h1), (h1, mkC h2), (h2, .inl (cJ, 4, .inr (.inl f))), (r4, chC cf cl zn 3)]) (f := pf cJ kd pi bd af bo) m_z_80
    refine va_putN (D := D) (ci := 5) (v := .int n0) (ty := .int) (C := RX5) (T := TX5) (N := 7) hx hb ha inlX5 tyX5 tyX5_ok nmX5 hown hK hP hD hS k_126 (hk_126.trans (congrArg (fun z => some (z_80, z)) (pf_p k_z_80))) rfl 1 (by decide) (va_Nw.use rfl (hN.f RX7 85 "CongestionBench$Parcel" "flow" "I" "CongestionBench" (by decide +kernel))) (fun _ h9 => h9) rfl (by decide +kernel) rfl rfl (Nat.le_of_ble_eq_true rfl) dX7_sendAck_29 (fun H locs hP1 hD1 hS => ?_)
    have hP : va_P D vwCl ([(r0, rdC ov (va_rf ol) r1 r2 r3 r4 r5), (r1, chC cf cl zn 0), (r2, chC cf cl zn 1), (r3, chC cf cl zn 2), (h0, rcC n0 rv w0 h1), (h1, mkC h2), (h2, .inl (cJ, 4, .inr (.inl f))), (r4, chC cf cl zn 3)] ++ va_pl L (pf cJ kd (upp pi 1 z_80 n0) bd af bo)) H := by rw [← pf_u1 k_z_80, ← va_pl_set hD m_z_80 hk_126]; exact hP1
    have hD : va_D A ([(r0, rdC ov (va_rf ol) r1 r2 r3 r4 r5), (r1, chC cf cl zn 0), (r2, chC cf cl zn 1), (r3, chC cf cl zn 2), (h0, rcC n0 rv w0 h1), (h1, mkC h2), (h2, .inl (cJ, 4, .inr (.inl f))), (r4, chC cf cl zn 3)] ++ va_pl L (pf cJ kd (upp pi 1 z_80 n0) bd af bo)) := by rw [← pf_u1 k_z_80, ← va_pl_set hD m_z_80 hk_126]; exact hD1
    have hPB := PB_due (k := 1) (a := z_80) (x := n0) hPB (by decide)
    have hQ := QQ_pi (k := 1) (q := z_80) (x := n0) hQ hR t_z_80
    have hG := GG_pi (k := 1) (z := z_80) (x := n0) hG hR t_z_80
    generalize g_127 : upp pi 1 z_80 n0 = pi at hP hD hPB hQ hG
    have p1_z_80 : pi 1 z_80 = n0 := by rw [← g_127]; exact upp_eq
    refine lv_aload hx hb dX7_sendAck_32 (lv_at hl 0 rfl) ?_
    refine lv_aload_n hx hb dX7_sendAck_34 rfl (lv_at hl 2 rfl) ?_
    refine va_getN (D := D) (ci := 6) (v := .int (rv 2)) (C := RX6) (T := TX6) (N := 11) hx hb ha inlX6 hown hK hP 4 rfl rfl 2 (by decide) (va_Nw.use rfl (hN.f RX7 101 "CongestionBench$Receiver" "next" "I" "CongestionBench" (by decide +kernel))) (fun _ h9 => h9) rfl dX7_sendAck_35 ?_
    refine lv_topi (fun x_128 ex_128 => ?_)
    have hE := bd_at ex_128 hE
    obtain ⟨k_129, hk_129⟩ := va_pl_get (X := [(r0, rdC ov (va_rf ol) r1 r2 r3 r4 r5), (r1, chC cf cl zn 0), (r2, chC cf cl zn 1), (r3, chC cf cl zn 2), (h0, rcC n0 rv w0 h1), (h1, mkC h2), (h2, .inl (cJ, 4, .inr (.inl f))), (r4, chC cf cl zn 3)]) (f := pf cJ kd pi bd af bo) m_z_80
    refine va_putN (D := D) (ci := 5) (v := .int x_128) (ty := .int) (C := RX5) (T := TX5) (N := 7) hx hb ha inlX5 tyX5 tyX5_ok nmX5 hown hK hP hD hS k_129 (hk_129.trans (congrArg (fun z => some (z_80, z)) (pf_p k_z_80))) rfl 2 (by decide) (va_Nw.use rfl (hN.f RX7 88 "CongestionBench$Parcel" "number" "I" "CongestionBench" (by decide +kernel))) (fun _ h9 => h9) rfl (by decide +kernel) rfl rfl (Nat.le_of_ble_eq_true rfl) dX7_sendAck_38 (fun H locs hP1 hD1 hS => ?_)
    have hP : va_P D vwCl ([(r0, rdC ov (va_rf ol) r1 r2 r3 r4 r5), (r1, chC cf cl zn 0), (r2, chC cf cl zn 1), (r3, chC cf cl zn 2), (h0, rcC n0 rv w0 h1), (h1, mkC h2), (h2, .inl (cJ, 4, .inr (.inl f))), (r4, chC cf cl zn 3)] ++ va_pl L (pf cJ kd (upp pi 2 z_80 x_128) bd af bo)) H := by rw [← pf_u2 k_z_80, ← va_pl_set hD m_z_80 hk_129]; exact hP1
    have hD : va_D A ([(r0, rdC ov (va_rf ol) r1 r2 r3 r4 r5), (r1, chC cf cl zn 0), (r2, chC cf cl zn 1), (r3, chC cf cl zn 2), (h0, rcC n0 rv w0 h1), (h1, mkC h2), (h2, .inl (cJ, 4, .inr (.inl f))), (r4, chC cf cl zn 3)] ++ va_pl L (pf cJ kd (upp pi 2 z_80 x_128) bd af bo)) := by rw [← pf_u2 k_z_80, ← va_pl_set hD m_z_80 hk_129]; exact hD1
    have hPB := PB_due (k := 2) (a := z_80) (x := x_128) hPB (by decide)
    have hQ := QQ_pi (k := 2) (q := z_80) (x := x_128) hQ hR t_z_80
    have hG := GG_pi (k := 2) (z := z_80) (x := x_128) hG hR t_z_80
    generalize g_130 : upp pi 2 z_80 x_128 = pi at hP hD hPB hQ hG
    have p1_z_80 : pi 1 z_80 = n0 := by rw [← g_130]; exact (upp_ne (by decide)).trans p1_z_80
    have p2_z_80 : pi 2 z_80 = x_128 := by rw [← g_130]; exact upp_eq
    refine lv_aload hx hb dX7_sendAck_41 (lv_at hl 0 rfl) ?_
    refine lv_aload_n hx hb dX7_sendAck_43 rfl (lv_at hl 2 rfl) ?_
    refine va_getN (D := D) (ci := 6) (v := .int w0) (C := RX6) (T := TX6) (N := 11) hx hb ha inlX6 hown hK hP 4 rfl rfl 3 (by decide) (va_Nw.use rfl (hN.f RX7 104 "CongestionBench$Receiver" "window" "I" "CongestionBench" (by decide +kernel))) (fun _ h9 => h9) rfl dX7_sendAck_44 ?_
    obtain ⟨k_131, hk_131⟩ := va_pl_get (X := [(r0, rdC ov (va_rf ol) r1 r2 r3 r4 r5), (r1, chC cf cl zn 0), (r2, chC cf cl zn 1), (r3, chC cf cl zn 2), (h0, rcC n0 rv w0 h1), (h1, mkC h2), (h2, .inl (cJ, 4, .inr (.inl f))), (r4, chC cf cl zn 3)]) (f := pf cJ kd pi bd af bo) m_z_80
    refine va_putN (D := D) (ci := 5) (v := .int w0) (ty := .int) (C := RX5) (T := TX5) (N := 7) hx hb ha inlX5 tyX5 tyX5_ok nmX5 hown hK hP hD hS k_131 (hk_131.trans (congrArg (fun z => some (z_80, z)) (pf_p k_z_80))) rfl 4 (by decide) (va_Nw.use rfl (hN.f RX7 107 "CongestionBench$Parcel" "window" "I" "CongestionBench" (by decide +kernel))) (fun _ h9 => h9) rfl (by decide +kernel) rfl rfl (Nat.le_of_ble_eq_true rfl) dX7_sendAck_47 (fun H locs hP1 hD1 hS => ?_)
    have hP : va_P D vwCl ([(r0, rdC ov (va_rf ol) r1 r2 r3 r4 r5), (r1, chC cf cl zn 0), (r2, chC cf cl zn 1), (r3, chC cf cl zn 2), (h0, rcC n0 rv w0 h1), (h1, mkC h2), (h2, .inl (cJ, 4, .inr (.inl f))), (r4, chC cf cl zn 3)] ++ va_pl L (pf cJ kd (upp pi 4 z_80 w0) bd af bo)) H := by rw [← pf_u4 k_z_80, ← va_pl_set hD m_z_80 hk_131]; exact hP1
    have hD : va_D A ([(r0, rdC ov (va_rf ol) r1 r2 r3 r4 r5), (r1, chC cf cl zn 0), (r2, chC cf cl zn 1), (r3, chC cf cl zn 2), (h0, rcC n0 rv w0 h1), (h1, mkC h2), (h2, .inl (cJ, 4, .inr (.inl f))), (r4, chC cf cl zn 3)] ++ va_pl L (pf cJ kd (upp pi 4 z_80 w0) bd af bo)) := by rw [← pf_u4 k_z_80, ← va_pl_set hD m_z_80 hk_131]; exact hD1
    have hPB := PB_due (k := 4) (a := z_80) (x := w0) hPB (by decide)
    have hQ := QQ_pi (k := 4) (q := z_80) (x := w0) hQ hR t_z_80
    have hG := GG_pi (k := 4) (z := z_80) (x := w0) hG hR t_z_80
    generalize g_132 : upp pi 4 z_80 w0 = pi at hP hD hPB hQ hG
    have p1_z_80 : pi 1 z_80 = n0 := by rw [← g_132]; exact (upp_ne (by decide)).trans p1_z_80
    have p2_z_80 : pi 2 z_80 = x_128 := by rw [← g_132]; exact (upp_ne (by decide)).trans p2_z_80
    have p4_z_80 : pi 4 z_80 = w0 := by rw [← g_132]; exact upp_eq
    refine lv_aload hx hb dX7_sendAck_50 (lv_at hl 0 rfl) ?_
    refine lv_iload_n hx hb dX7_sendAck_52 rfl (lv_at hl 3 rfl) ?_
    obtain ⟨k_133, hk_133⟩ := va_pl_get (X := [(r0, rdC ov (va_rf ol) r1 r2 r3 r4 r5), (r1, chC cf cl zn 0), (r2, chC cf cl zn 1), (r3, chC cf cl zn 2), (h0, rcC n0 rv w0 h1), (h1, mkC h2), (h2, .inl (cJ, 4, .inr (.inl f))), (r4, chC cf cl zn 3)]) (f := pf cJ kd pi bd af bo) m_z_80
    refine va_putN (D := D) (ci := 5) (v := .int n1) (ty := .boolean) (C := RX5) (T := TX5) (N := 7) hx hb ha inlX5 tyX5 tyX5_ok nmX5 hown hK hP hD hS k_133 (hk_133.trans (congrArg (fun z => some (z_80, z)) (pf_p k_z_80))) rfl 3 (by decide) (va_Nw.use rfl (hN.f RX7 91 "CongestionBench$Parcel" "special" "Z" "CongestionBench" (by decide +kernel))) (fun _ h9 => h9) rfl (by decide +kernel) (by rcases hz with h | h <;> rw [h] <;> rfl) (by rcases hz with h | h <;> rw [h] <;> rfl) (Nat.le_of_ble_eq_true rfl) dX7_sendAck_53 (fun H locs hP1 hD1 hS => ?_)
    have hP : va_P D vwCl ([(r0, rdC ov (va_rf ol) r1 r2 r3 r4 r5), (r1, chC cf cl zn 0), (r2, chC cf cl zn 1), (r3, chC cf cl zn 2), (h0, rcC n0 rv w0 h1), (h1, mkC h2), (h2, .inl (cJ, 4, .inr (.inl f))), (r4, chC cf cl zn 3)] ++ va_pl L (pf cJ kd (upp pi 3 z_80 n1) bd af bo)) H := by rw [← pf_u3 k_z_80, ← va_pl_set hD m_z_80 hk_133]; exact hP1
    have hD : va_D A ([(r0, rdC ov (va_rf ol) r1 r2 r3 r4 r5), (r1, chC cf cl zn 0), (r2, chC cf cl zn 1), (r3, chC cf cl zn 2), (h0, rcC n0 rv w0 h1), (h1, mkC h2), (h2, .inl (cJ, 4, .inr (.inl f))), (r4, chC cf cl zn 3)] ++ va_pl L (pf cJ kd (upp pi 3 z_80 n1) bd af bo)) := by rw [← pf_u3 k_z_80, ← va_pl_set hD m_z_80 hk_133]; exact hD1
    have hPB := PB_spec (a := z_80) (x := n1) hPB hz
    have hQ := QQ_pi (k := 3) (q := z_80) (x := n1) hQ hR t_z_80
    have hG := GG_pi (k := 3) (z := z_80) (x := n1) hG hR t_z_80
    generalize g_134 : upp pi 3 z_80 n1 = pi at hP hD hPB hQ hG
    have p1_z_80 : pi 1 z_80 = n0 := by rw [← g_134]; exact (upp_ne (by decide)).trans p1_z_80
    have p2_z_80 : pi 2 z_80 = x_128 := by rw [← g_134]; exact (upp_ne (by decide)).trans p2_z_80
    have p4_z_80 : pi 4 z_80 = w0 := by rw [← g_134]; exact (upp_ne (by decide)).trans p4_z_80
    have p3_z_80 : pi 3 z_80 = n1 := by rw [← g_134]; exact upp_eq
    refine lv_aload_n hx hb dX7_sendAck_56 rfl (lv_at hl 2 rfl) ?_
    refine va_getN (D := D) (ci := 6) (v := .ref h1) (C := RX6) (T := TX6) (N := 11) hx hb ha inlX6 hown hK hP 4 rfl rfl 4 (by decide) (va_Nw.use rfl (hN.f RX7 108 "CongestionBench$Receiver" "kept" "LCongestionBench$Marks;" "CongestionBench" (by decide +kernel))) (fun _ h9 => h9) rfl dX7_sendAck_57 ?_
    refine lv_aload hx hb dX7_sendAck_60 (lv_at hl 0 rfl) ?_
    obtain ⟨k_135, hk_135⟩ := va_pl_get (X := [(r0, rdC ov (va_rf ol) r1 r2 r3 r4 r5), (r1, chC cf cl zn 0), (r2, chC cf cl zn 1), (r3, chC cf cl zn 2), (h0, rcC n0 rv w0 h1), (h1, mkC h2), (h2, .inl (cJ, 4, .inr (.inl f))), (r4, chC cf cl zn 3)]) (f := pf cJ kd pi bd af bo) m_z_80
    refine va_getN (D := D) (ci := 5) (v := .ref (bd z_80)) (C := RX5) (T := TX5) (N := 7) hx hb ha inlX5 hown hK hP k_135 (hk_135.trans (congrArg (fun z => some (z_80, z)) (pf_p k_z_80))) rfl 5 (by decide) (va_Nw.use rfl (hN.f RX7 112 "CongestionBench$Parcel" "board" "[J" "CongestionBench" (by decide +kernel))) (fun _ h9 => h9) rfl dX7_sendAck_62 ?_
    have hPc := hP.part (X := [(r0, rdC ov (va_rf ol) r1 r2 r3 r4 r5), (r1, chC cf cl zn 0), (r2, chC cf cl zn 1), (r3, chC cf cl zn 2), (h0, rcC n0 rv w0 h1), (h1, mkC h2), (h2, .inl (cJ, 4, .inr (.inl f))), (r4, chC cf cl zn 3)]) (cx := [(h1, mkC h2), (h2, .inl (cJ, 4, .inr (.inl f)))]) (pl := va_pl L (pf cJ kd pi bd af bo)) [5, 6] rfl
    have hDc := hD.part (X := [(r0, rdC ov (va_rf ol) r1 r2 r3 r4 r5), (r1, chC cf cl zn 0), (r2, chC cf cl zn 1), (r3, chC cf cl zn 2), (h0, rcC n0 rv w0 h1), (h1, mkC h2), (h2, .inl (cJ, 4, .inr (.inl f))), (r4, chC cf cl zn 3)]) (cx := [(h1, mkC h2), (h2, .inl (cJ, 4, .inr (.inl f)))]) (pl := va_pl L (pf cJ kd pi bd af bo)) [5, 6] (by decide) rfl
    have hFc := va_freeP (X := [(r0, rdC ov (va_rf ol) r1 r2 r3 r4 r5), (r1, chC cf cl zn 0), (r2, chC cf cl zn 1), (r3, chC cf cl zn 2), (h0, rcC n0 rv w0 h1), (h1, mkC h2), (h2, .inl (cJ, 4, .inr (.inl f))), (r4, chC cf cl zn 3)]) (cx := [(h1, mkC h2), (h2, .inl (cJ, 4, .inr (.inl f)))]) (pl := va_pl L (pf cJ kd pi bd af bo)) hD hS hA [5, 6] rfl
    refine va_callv (va_runV (As := [.ref (bd z_80)]) (rest := []) ⟨hx, hb, hml, hown, ha⟩ (s_writeToP l D cI cJ cZ cO _ h1 h2 (bd z_80) f L kd pi bd af bo (hPB z_80 m_z_80 k_z_80).1 (hPB z_80 m_z_80 k_z_80).2.1) (cwV 1 ha (gaV kl_X7_116 km_X4_writeTo ks_X4_writeTo kz_X4 kd_X4_writeTo) rfl rfl rfl (by decide +kernel) ⟨Nat.le_of_ble_eq_true rfl, Nat.le_of_ble_eq_true rfl⟩) ⟨pw_blind, va_recv hK hPc (ci := 4) (q0 := 0) rfl rfl, fun U hU hW => ⟨rfl, pw_start hU hW hPc hK hDc hN⟩⟩ rfl rfl hl.1 rfl (lv_room (Nat.le_of_ble_eq_true rfl)) dX7_sendAck_65 ⟨Nat.le_of_ble_eq_true rfl, Nat.le_of_ble_eq_true rfl⟩) hS (fun q _ h => hFc q h) hFc (fun u t H1 locs ht hvm hw hB hz1 hk1 hS => ?_)
    obtain ⟨f, q_138, ⟨hf_139, hX0⟩, hP1, hK1, hD1⟩ := hB
    have hE := bd_at rfl hE
    have hE := bd_at hX0 hE
    rw [ht] at hP1
    obtain ⟨hP, hD⟩ := va_joinP (wr := [(r0, rdC ov (va_rf ol) r1 r2 r3 r4 r5), (r1, chC cf cl zn 0), (r2, chC cf cl zn 1), (r3, chC cf cl zn 2), (h0, rcC n0 rv w0 h1), (r4, chC cf cl zn 3)]) (rx := [(h1, mkC h2), (h2, .inl (cJ, 4, .inr (.inl f)))]) (pl1 := va_pl L (pf cJ kd pi bd af q_138)) hP hD [5, 6] [0, 1, 2, 3, 4, 7] rfl rfl (by decide) (by decide) hk1 hFc hP1 hD1
    generalize H1 = H at hP hS ⊢
    have hP : va_P D vwCl ([(r0, rdC ov (va_rf ol) r1 r2 r3 r4 r5), (r1, chC cf cl zn 0), (r2, chC cf cl zn 1), (r3, chC cf cl zn 2), (h0, rcC n0 rv w0 h1), (r4, chC cf cl zn 3), (h1, mkC h2), (h2, .inl (cJ, 4, .inr (.inl f)))] ++ va_pl L (pf cJ kd pi bd af q_138)) H := hP
    have hD : va_D A ([(r0, rdC ov (va_rf ol) r1 r2 r3 r4 r5), (r1, chC cf cl zn 0), (r2, chC cf cl zn 1), (r3, chC cf cl zn 2), (h0, rcC n0 rv w0 h1), (r4, chC cf cl zn 3), (h1, mkC h2), (h2, .inl (cJ, 4, .inr (.inl f)))] ++ va_pl L (pf cJ kd pi bd af q_138)) := hD
    refine W.widen (k := 0) (n := 0) (Nat.le_of_ble_eq_true rfl) (Nat.le_of_ble_eq_true rfl) ?_
    have hG := GG_bo hG hR hJ m_z_80 k_z_80 t_z_80 hf_139.2
    have hrow := hf_139.1
    refine lv_aload hx hb dX7_sendAck_68 (lv_at hl 0 rfl) ?_
    refine lv_iload_n hx hb dX7_sendAck_70 rfl (lv_at hl 4 rfl) ?_
    refine lv_aload_n hx hb dX7_sendAck_71 rfl (lv_at hl 1 rfl) ?_
    refine va_get (D := D) (ci := 7) (v := .int (ov 3)) (C := RX7) (T := TX7) (N := 15) hx hb ha inlX7 hown hK hP 0 rfl rfl 3 (by decide) (ha _ kf_X7_21) (fun _ h9 => h9) rfl dX7_sendAck_72 ?_
    refine lv_topi (fun x_140 ex_140 => ?_)
    have hE := bd_at ex_140 hE
    refine lv_iadd hx hb dX7_sendAck_75 ?_
    refine lv_topi (fun x_141 ex_141 => ?_)
    have hE := bd_at ex_141 hE
    obtain ⟨k_142, hk_142⟩ := va_pl_get (X := [(r0, rdC ov (va_rf ol) r1 r2 r3 r4 r5), (r1, chC cf cl zn 0), (r2, chC cf cl zn 1), (r3, chC cf cl zn 2), (h0, rcC n0 rv w0 h1), (r4, chC cf cl zn 3), (h1, mkC h2), (h2, .inl (cJ, 4, .inr (.inl f)))]) (f := pf cJ kd pi bd af q_138) m_z_80
    refine va_putN (D := D) (ci := 5) (v := .int x_141) (ty := .int) (C := RX5) (T := TX5) (N := 7) hx hb ha inlX5 tyX5 tyX5_ok nmX5 hown hK hP hD hS k_142 (hk_142.trans (congrArg (fun z => some (z_80, z)) (pf_p k_z_80))) rfl 0 (by decide) (va_Nw.use rfl (hN.f RX7 58 "CongestionBench$Parcel" "due" "I" "CongestionBench" (by decide +kernel))) (fun _ h9 => h9) rfl (by decide +kernel) rfl rfl (Nat.le_of_ble_eq_true rfl) dX7_sendAck_76 (fun H locs hP1 hD1 hS => ?_)
    have hP : va_P D vwCl ([(r0, rdC ov (va_rf ol) r1 r2 r3 r4 r5), (r1, chC cf cl zn 0), (r2, chC cf cl zn 1), (r3, chC cf cl zn 2), (h0, rcC n0 rv w0 h1), (r4, chC cf cl zn 3), (h1, mkC h2), (h2, .inl (cJ, 4, .inr (.inl f)))] ++ va_pl L (pf cJ kd (upp pi 0 z_80 x_141) bd af q_138)) H := by rw [← pf_u0 k_z_80, ← va_pl_set hD m_z_80 hk_142]; exact hP1
    have hD : va_D A ([(r0, rdC ov (va_rf ol) r1 r2 r3 r4 r5), (r1, chC cf cl zn 0), (r2, chC cf cl zn 1), (r3, chC cf cl zn 2), (h0, rcC n0 rv w0 h1), (r4, chC cf cl zn 3), (h1, mkC h2), (h2, .inl (cJ, 4, .inr (.inl f)))] ++ va_pl L (pf cJ kd (upp pi 0 z_80 x_141) bd af q_138)) := by rw [← pf_u0 k_z_80, ← va_pl_set hD m_z_80 hk_142]; exact hD1
    have hPB := PB_due (k := 0) (a := z_80) (x := x_141) hPB (by decide)
    have hQ := QQ_pi (k := 0) (q := z_80) (x := x_141) hQ hR t_z_80
    have hG := GG_pi (k := 0) (z := z_80) (x := x_141) hG hR t_z_80
    generalize g_143 : upp pi 0 z_80 x_141 = pi at hP hD hPB hQ hG
    have p1_z_80 : pi 1 z_80 = n0 := by rw [← g_143]; exact (upp_ne (by decide)).trans p1_z_80
    have p2_z_80 : pi 2 z_80 = x_128 := by rw [← g_143]; exact (upp_ne (by decide)).trans p2_z_80
    have p3_z_80 : pi 3 z_80 = n1 := by rw [← g_143]; exact (upp_ne (by decide)).trans p3_z_80
    have p4_z_80 : pi 4 z_80 = w0 := by rw [← g_143]; exact (upp_ne (by decide)).trans p4_z_80
    have p0_z_80 : pi 0 z_80 = x_141 := by rw [← g_143]; exact upp_eq
    have p_z_80 := p0_z_80
    refine lv_aload_n hx hb dX7_sendAck_79 rfl (lv_at hl 1 rfl) ?_
    refine va_get (D := D) (ci := 7) (v := .ref r3) (C := RX7) (T := TX7) (N := 15) hx hb ha inlX7 hown hK hP 0 rfl rfl 7 (by decide) (ha _ kf_X7_34) (fun _ h9 => h9) rfl dX7_sendAck_80 ?_
    refine lv_aload hx hb dX7_sendAck_83 (lv_at hl 0 rfl) ?_
    have hPc := hP.part (X := [(r0, rdC ov (va_rf ol) r1 r2 r3 r4 r5), (r1, chC cf cl zn 0), (r2, chC cf cl zn 1), (r3, chC cf cl zn 2), (h0, rcC n0 rv w0 h1), (r4, chC cf cl zn 3), (h1, mkC h2), (h2, .inl (cJ, 4, .inr (.inl f)))]) (cx := [(r3, chC cf cl zn 2)]) (pl := va_pl L (pf cJ kd pi bd af q_138)) [3] rfl
    have hDc := hD.part (X := [(r0, rdC ov (va_rf ol) r1 r2 r3 r4 r5), (r1, chC cf cl zn 0), (r2, chC cf cl zn 1), (r3, chC cf cl zn 2), (h0, rcC n0 rv w0 h1), (r4, chC cf cl zn 3), (h1, mkC h2), (h2, .inl (cJ, 4, .inr (.inl f)))]) (cx := [(r3, chC cf cl zn 2)]) (pl := va_pl L (pf cJ kd pi bd af q_138)) [3] (by decide) rfl
    have hFc := va_freeP (X := [(r0, rdC ov (va_rf ol) r1 r2 r3 r4 r5), (r1, chC cf cl zn 0), (r2, chC cf cl zn 1), (r3, chC cf cl zn 2), (h0, rcC n0 rv w0 h1), (r4, chC cf cl zn 3), (h1, mkC h2), (h2, .inl (cJ, 4, .inr (.inl f)))]) (cx := [(r3, chC cf cl zn 2)]) (pl := va_pl L (pf cJ kd pi bd af q_138)) hD hS hA [3] rfl
    refine va_callv (va_runV (As := [.ref z_80]) (rest := []) ⟨hx, hb, hml, hown, ha⟩ (s_putByDue l D cI cJ cZ cO _ r3 z_80 L kd pi bd af q_138 (cf 2) (cl 2) (zn 2) (xl 2) m_z_80 k_z_80 (hR.1 2 (by decide)).1 (RI_mem hR (by decide)) (hR.1 2 (by decide)).2.1 (RI_notin hR (by decide) t_z_80)) (cwV 1 ha (gaV kl_X7_63 km_X1_putByDue ks_X1_putByDue kz_X1 kd_X1_putByDue) rfl rfl rfl (by decide +kernel) ⟨Nat.le_of_ble_eq_true rfl, Nat.le_of_ble_eq_true rfl⟩) ⟨pw_blind, va_recv hK hPc (ci := 1) (q0 := 0) rfl rfl, fun U hU hW => ⟨rfl, pw_start hU hW hPc hK hDc hN⟩⟩ rfl rfl hl.1 rfl (lv_room (Nat.le_of_ble_eq_true rfl)) dX7_sendAck_85 ⟨Nat.le_of_ble_eq_true rfl, Nat.le_of_ble_eq_true rfl⟩) hS (fun q _ h => hFc q h) hFc (fun u t H1 locs ht hvm hw hB hz1 hk1 hS => ?_)
    obtain ⟨q_145, q_146, q_147, q_148, q_149, hf_150, hP1, hK1, hD1⟩ := hB
    rw [ht] at hP1
    obtain ⟨hP, hD⟩ := va_joinP (wr := [(r0, rdC ov (va_rf ol) r1 r2 r3 r4 r5), (r1, chC cf cl zn 0), (r2, chC cf cl zn 1), (h0, rcC n0 rv w0 h1), (r4, chC cf cl zn 3), (h1, mkC h2), (h2, .inl (cJ, 4, .inr (.inl f)))]) (rx := [(r3, .inr (1, [va_rf q_145, va_rf q_146, .int ((zn 2) + 1)]))]) (pl1 := va_pl L (pf cJ kd pi bd q_147 q_138)) hP hD [3] [0, 1, 2, 4, 5, 6, 7] rfl rfl (by decide) (by decide) hk1 hFc hP1 hD1
    generalize H1 = H at hP hS ⊢
    have hP : va_P D vwCl ([(r0, rdC ov (va_rf ol) r1 r2 r3 r4 r5), (r1, chC cf cl zn 0), (r2, chC cf cl zn 1), (h0, rcC n0 rv w0 h1), (r4, chC cf cl zn 3), (h1, mkC h2), (h2, .inl (cJ, 4, .inr (.inl f))), (r3, .inr (1, [va_rf q_145, va_rf q_146, .int ((zn 2) + 1)]))] ++ va_pl L (pf cJ kd pi bd q_147 q_138)) H := hP
    have hD : va_D A ([(r0, rdC ov (va_rf ol) r1 r2 r3 r4 r5), (r1, chC cf cl zn 0), (r2, chC cf cl zn 1), (h0, rcC n0 rv w0 h1), (r4, chC cf cl zn 3), (h1, mkC h2), (h2, .inl (cJ, 4, .inr (.inl f))), (r3, .inr (1, [va_rf q_145, va_rf q_146, .int ((zn 2) + 1)]))] ++ va_pl L (pf cJ kd pi bd q_147 q_138)) := hD
    refine W.widen (k := 0) (n := 0) (Nat.le_of_ble_eq_true rfl) (Nat.le_of_ble_eq_true rfl) ?_
    have hZ := ZN_put (q := z_80) hZ (by decide) hf_150.1
    have hG := GG_put2 hG (hQ.2.2.1.2 hS2) hf_150.1 hf_150.2.2.2
    rw [show ca pi bd q_138 z_80 = (x_141, n0, x_128, n1, w0, rw4 f) by unfold ca; rw [p0_z_80, p1_z_80, p2_z_80, p3_z_80, p4_z_80, hrow, hX0]; rfl] at hG
    generalize hgh_151 : insA (x_141, n0, x_128, n1, w0, rw4 f) ga = ga at hG
    have hE := bs_at hgh_151 hE
    have hQ := QQ_put2 hQ o_z_80 hf_150.1 ⟨hf_150.2.2.2.1, fun c hc => Int32.le_of_lt (hf_150.2.2.2.2 c hc)⟩
    rw [p_z_80, ex_141, ex_140] at hQ
    have hR := RI_put hR (by decide) m_z_80 k_z_80 t_z_80 ⟨hf_150.1, hf_150.2.1, hf_150.2.2.1⟩
    have hP : va_P D vwCl ([(r0, rdC ov (va_rf ol) r1 r2 r3 r4 r5), (r1, .inr (1, [va_rf (va_up cf 2 q_145 0), va_rf (va_up cl 2 q_146 0), .int (va_up zn 2 (zn 2 + 1) 0)])), (r2, .inr (1, [va_rf (va_up cf 2 q_145 1), va_rf (va_up cl 2 q_146 1), .int (va_up zn 2 (zn 2 + 1) 1)])), (h0, rcC n0 rv w0 h1), (r4, .inr (1, [va_rf (va_up cf 2 q_145 3), va_rf (va_up cl 2 q_146 3), .int (va_up zn 2 (zn 2 + 1) 3)])), (h1, mkC h2), (h2, .inl (cJ, 4, .inr (.inl f))), (r3, .inr (1, [va_rf (va_up cf 2 q_145 2), va_rf (va_up cl 2 q_146 2), .int (va_up zn 2 (zn 2 + 1) 2)]))] ++ va_pl L (pf cJ kd pi bd q_147 q_138)) H := hP
    have hD : va_D A ([(r0, rdC ov (va_rf ol) r1 r2 r3 r4 r5), (r1, .inr (1, [va_rf (va_up cf 2 q_145 0), va_rf (va_up cl 2 q_146 0), .int (va_up zn 2 (zn 2 + 1) 0)])), (r2, .inr (1, [va_rf (va_up cf 2 q_145 1), va_rf (va_up cl 2 q_146 1), .int (va_up zn 2 (zn 2 + 1) 1)])), (h0, rcC n0 rv w0 h1), (r4, .inr (1, [va_rf (va_up cf 2 q_145 3), va_rf (va_up cl 2 q_146 3), .int (va_up zn 2 (zn 2 + 1) 3)])), (h1, mkC h2), (h2, .inl (cJ, 4, .inr (.inl f))), (r3, .inr (1, [va_rf (va_up cf 2 q_145 2), va_rf (va_up cl 2 q_146 2), .int (va_up zn 2 (zn 2 + 1) 2)]))] ++ va_pl L (pf cJ kd pi bd q_147 q_138)) := hD
    generalize g_152 : va_up cf 2 q_145 = cf at hP hD hR
    generalize g_153 : va_up cl 2 q_146 = cl at hP hD hR
    generalize g_154 : va_up zn 2 (zn 2 + 1) = zn at hP hD hZ
    generalize g_155 : va_up xl 2 (q_148 ++ z_80 :: q_149) = xl at hR hZ hQ hG
    generalize g_156 : va_up tag z_80 2 = tag at hR hQ
    refine W.know2 (fun hk1 hk2 => ?_)
    have hgr : gr s.heap _ 0 := ⟨hk1, hk2⟩
    refine W.widen (k := 2) (n := 11) (Nat.le_of_ble_eq_true rfl) (Nat.le_of_ble_eq_true rfl) ?_
    have hP9 : va_P D vwCl ([(r0, rdC ov (va_rf ol) r1 r2 r3 r4 r5), (r1, chC cf cl zn 0), (r2, chC cf cl zn 1), (r3, chC cf cl zn 2), (r4, chC cf cl zn 3), (h0, rcC n0 rv w0 h1), (h1, mkC h2), (h2, .inl (cJ, 4, .inr (.inl f)))] ++ va_pl L (pf cJ kd pi bd q_147 q_138)) _ := hP.part [0, 1, 2, 7, 4, 3, 5, 6] rfl
    have hD9 : va_D A ([(r0, rdC ov (va_rf ol) r1 r2 r3 r4 r5), (r1, chC cf cl zn 0), (r2, chC cf cl zn 1), (r3, chC cf cl zn 2), (r4, chC cf cl zn 3), (h0, rcC n0 rv w0 h1), (h1, mkC h2), (h2, .inl (cJ, 4, .inr (.inl f)))] ++ va_pl L (pf cJ kd pi bd q_147 q_138)) := hD.part [0, 1, 2, 7, 4, 3, 5, 6] (by decide) rfl
    exact W.vret hx hb hr (fun t ht hW => ⟨⟨(), rfl, trivial, ⟨cf, cl, zn, xl, tag, f, L, kd, pi, bd, q_147, q_138, 0, ga, ⟨⟨hR, hPB, hZ, by rw [ht]; exact hgr, by decide, hQ⟩, ⟨hG, hJ⟩, (by rw [← hRES, hE]), (by rw [← hRES, hE])⟩, by rw [ht]; exact hP9, va_K.moved hW.alike hK, hD9⟩⟩, hS.F ht⟩) hS.2.2 dX7_sendAck_88

def xc_launch (ov : Nat → Int32) (go : Option S4) (gq : List S3) (tf : Nat → Int32) (n1 n2 n3 n4 : Int32) : (Nat → Int32) × (Nat → Int32) × (Option S4) × (List S3) :=
  bd (ov 11) (fun v1 => bd (xc_place ov tf v1) (fun t1 => bd t1 (fun r1 => bd (ov 11) (fun v2 => bd (v2 + 1) (fun v3 => bd (upd ov 11 v3) (fun ov =>
  if r1 = -1 then om go (bd (ov 0) (fun v4 => bd (n4 + v4) (fun v5 => bd (some (v5, n1, n2, n3)) (fun go => (ov, tf, go, gq)))))
    (fun _ => bd (ov 1) (fun v4 => if nI gq.length < v4 then bd (gq ++ [(n1, n2, n3)]) (fun gq => (ov, tf, go, gq)) else bd (ov 12) (fun v5 => bd (v5 + 1) (fun v6 => bd (upd ov 12 v6) (fun ov => (ov, tf, go, gq))))))
  else bd (xc_forget ov tf r1) (fun t2 => bd t2.1 (fun ov => bd t2.2 (fun tf => bd (ov 13) (fun v4 => bd (v4 + 1) (fun v5 => bd (upd ov 13 v5) (fun ov => (ov, tf, go, gq)))))))))))))
set_option maxHeartbeats 4000000 in
set_option maxRecDepth 100000 in
theorem s_launch (l : Launch) (D : va_G) (cI cJ cZ cO : ClassId) (Hh : Heap) (r0 r1 r2 r3 r4 r5 : Nat) (ov : Nat → Int32) (ol : Option Nat) (cf cl : Nat → Option Nat) (zn : Nat → Int32) (xl : Nat → List Nat) (tag : Nat → Nat) (L : List Nat) (kd : Nat → Bool) (pi : Nat → Nat → Int32) (bd : Nat → Nat) (af : Nat → Option Nat) (bo : Nat → Nat → Int64) (go : Option S4) (gq : List S3) (gw : List S4) (ga : List A6) (tf : Nat → Int32) (n1 n2 n3 n4 : Int32) (hz : n3 = 0 ∨ n3 = 1) (hR : RI L kd af tag cf cl xl ol) (hPB : PB L kd pi bd) (hZ : ZN zn xl) (hG : GG xl pi bd bo ol go gq gw ga) (hJ : JB L kd bd) (hT : 0 ≤ ov 10) (hLK : LK ov) (hq0 : (xl 0).length ≤ 100) : Met l yX7_launch (wa yX7_launch cX7_launch 7 none) ({ frames := 2, cells := 2, slots := 11, locals := 40 }) (va_Pc [.ref r0, .int n1, .int n2, .int n3, .int n4] (pw_h D cI cJ cZ cO Hh ([(r0, rdC ov (va_rf ol) r1 r2 r3 r4 r5), (r1, chC cf cl zn 0), (r2, chC cf cl zn 1), (r3, chC cf cl zn 2), (r4, chC cf cl zn 3), (r5, tlC cI tf)] ++ va_pl L (pf cJ kd pi bd af bo)))) (va_Qv (fun (_ : Unit) => True) (fun (_ : Unit) (t : State) => ∃ (ov2 tf2 : Nat → Int32) (ol2 : Option Nat) (cf2 cl2 : Nat → Option Nat) (zn2 : Nat → Int32) (xl2 : Nat → List Nat) (tag2 : Nat → Nat) (L2 : List Nat) (kd2 : Nat → Bool) (pi2 : Nat → Nat → Int32) (bd2 : Nat → Nat) (af2 : Nat → Option Nat) (bo2 : Nat → Nat → Int64) (b2 : Nat) (go2 : Option S4) (gq2 : List S3), ((RI L2 kd2 af2 tag2 cf2 cl2 xl2 ol2 ∧ PB L2 kd2 pi2 bd2 ∧ ZN zn2 xl2 ∧ 0 ≤ ov2 10 ∧ gr Hh t.heap b2 ∧ b2 ≤ 1 ∧ LK ov2 ∧ QQ L kd tag xl pi ol L2 kd2 tag2 xl2 pi2 ol2 [] [] b2 0) ∧ (GG xl2 pi2 bd2 bo2 ol2 go2 gq2 gw ga ∧ JB L2 kd2 bd2) ∧ ov2 = (xc_launch ov go gq tf n1 n2 n3 n4).1 ∧ tf2 = (xc_launch ov go gq tf n1 n2 n3 n4).2.1 ∧ go2 = (xc_launch ov go gq tf n1 n2 n3 n4).2.2.1 ∧ gq2 = (xc_launch ov go gq tf n1 n2 n3 n4).2.2.2) ∧ pw_t D cI cJ cZ cO (va_A ([(r0, rdC ov (va_rf ol) r1 r2 r3 r4 r5), (r1, chC cf cl zn 0), (r2, chC cf cl zn 1), (r3, chC cf cl zn 2), (r4, chC cf cl zn 3), (r5, tlC cI tf)] ++ va_pl L (pf cJ kd pi bd af bo)) Hh.size) ([(r0, rdC ov2 (va_rf ol2) r1 r2 r3 r4 r5), (r1, chC cf2 cl2 zn2 0), (r2, chC cf2 cl2 zn2 1), (r3, chC cf2 cl2 zn2 2), (r4, chC cf2 cl2 zn2 3), (r5, tlC cI tf2)] ++ va_pl L2 (pf cJ kd2 pi2 bd2 af2 bo2)) t) (va_A ([(r0, rdC ov (va_rf ol) r1 r2 r3 r4 r5), (r1, chC cf cl zn 0), (r2, chC cf cl zn 1), (r3, chC cf cl zn 2), (r4, chC cf cl zn 3), (r5, tlC cI tf)] ++ va_pl L (pf cJ kd pi bd af bo)) Hh.size)) 2 11 (va_A ([(r0, rdC ov (va_rf ol) r1 r2 r3 r4 r5), (r1, chC cf cl zn 0), (r2, chC cf cl zn 1), (r3, chC cf cl zn 2), (r4, chC cf cl zn 3), (r5, tlC cI tf)] ++ va_pl L (pf cJ kd pi bd af bo)) Hh.size) := by
  refine Met.ofW (cc := cX7_launch) (maxL := 7) (ret := none) (by decide) rfl ?_
  intro p e s m args below meth c s₁ B hml hv
  obtain ⟨rfl, hsz, hP, hK, hD0, hN⟩ := hv
  have hx := B.exec
  have hb := B.bytes
  have hr := B.returns
  have hts := atoms_spec (ws := (wa yX7_launch cX7_launch 7 none)) B.pre
  have ha : ∀ w ∈ wsL_law, w.before _ s = true := fun w h => hts w (List.mem_cons_of_mem _ h)
  have hown : s.vm.findClass RX7 = some m.cls := findClass_of_methodNamed B.named
  have hlocks := B.notSynchronized
  subst hsz
  have hD := hD0.self (sz := s.heap.size)
  generalize hAe : va_A ([(r0, rdC ov (va_rf ol) r1 r2 r3 r4 r5), (r1, chC cf cl zn 0), (r2, chC cf cl zn 1), (r3, chC cf cl zn 2), (r4, chC cf cl zn 3), (r5, tlC cI tf)] ++ va_pl L (pf cJ kd pi bd af bo)) s.heap.size = A at hD ⊢
  have hA : ∀ q : Nat, s.heap.size ≤ q → A q := fun q h => by rw [← hAe]; exact Or.inr h
  have hS : va_S A s.heap s.heap [] := va_S.rf
  have hP : va_P D vwCl ([(r0, rdC ov (va_rf ol) r1 r2 r3 r4 r5), (r1, chC cf cl zn 0), (r2, chC cf cl zn 1), (r3, chC cf cl zn 2), (r4, chC cf cl zn 3), (r5, tlC cI tf)] ++ va_pl L (pf cJ kd pi bd af bo)) s.heap := hP
  have hl := lv_entry ([.ref r0, .int n1, .int n2, .int n3, .int n4]) (n := 7) (Nat.le_of_ble_eq_true rfl)
  rw [lg_entry_eq]
  generalize (lg_sl ([.ref r0, .int n1, .int n2, .int n3, .int n4]) ++ List.replicate (7 - (lg_sl ([.ref r0, .int n1, .int n2, .int n3, .int n4])).length) Slot.unset).toArray = ls at hl ⊢
  have hl : lv_has ls 7 [(0, .ref r0), (1, .int n1), (2, .int n2), (3, .int n3), (4, .int n4)] := hl
  obtain ⟨QP, hQP⟩ : ∃ y : State → Prop, y = (MQ below (va_Qv (fun (_ : Unit) => True) (fun (_ : Unit) (t : State) => ∃ (ov2 tf2 : Nat → Int32) (ol2 : Option Nat) (cf2 cl2 : Nat → Option Nat) (zn2 : Nat → Int32) (xl2 : Nat → List Nat) (tag2 : Nat → Nat) (L2 : List Nat) (kd2 : Nat → Bool) (pi2 : Nat → Nat → Int32) (bd2 : Nat → Nat) (af2 : Nat → Option Nat) (bo2 : Nat → Nat → Int64) (b2 : Nat) (go2 : Option S4) (gq2 : List S3), ((RI L2 kd2 af2 tag2 cf2 cl2 xl2 ol2 ∧ PB L2 kd2 pi2 bd2 ∧ ZN zn2 xl2 ∧ 0 ≤ ov2 10 ∧ gr s.heap t.heap b2 ∧ b2 ≤ 1 ∧ LK ov2 ∧ QQ L kd tag xl pi ol L2 kd2 tag2 xl2 pi2 ol2 [] [] b2 0) ∧ (GG xl2 pi2 bd2 bo2 ol2 go2 gq2 gw ga ∧ JB L2 kd2 bd2) ∧ ov2 = (xc_launch ov go gq tf n1 n2 n3 n4).1 ∧ tf2 = (xc_launch ov go gq tf n1 n2 n3 n4).2.1 ∧ go2 = (xc_launch ov go gq tf n1 n2 n3 n4).2.2.1 ∧ gq2 = (xc_launch ov go gq tf n1 n2 n3 n4).2.2.2) ∧ pw_t D cI cJ cZ cO A ([(r0, rdC ov2 (va_rf ol2) r1 r2 r3 r4 r5), (r1, chC cf2 cl2 zn2 0), (r2, chC cf2 cl2 zn2 1), (r3, chC cf2 cl2 zn2 2), (r4, chC cf2 cl2 zn2 3), (r5, tlC cI tf2)] ++ va_pl L2 (pf cJ kd2 pi2 bd2 af2 bo2)) t) A) #[(.ref r0 : Value), (.int n1 : Value), (.int n2 : Value), (.int n3 : Value), (.int n4 : Value)] s 2 11 A) := ⟨_, rfl⟩
  obtain ⟨RES, hRES⟩ : ∃ y, y = (xc_launch ov go gq tf n1 n2 n3 n4) := ⟨_, rfl⟩
  have hQ : QQ L kd tag xl pi ol L kd tag xl pi ol [] [] 0 0 := QQ_rf
  -- from the entry
  have hE := hRES
  unfold xc_launch at hE
  refine lv_aload_n hx hb dX7_launch_0 rfl (lv_at hl 0 rfl) ?_
  refine lv_aload_n hx hb dX7_launch_1 rfl (lv_at hl 0 rfl) ?_
  refine va_get (D := D) (ci := 7) (v := .int (ov 11)) (C := RX7) (T := TX7) (N := 15) hx hb ha inlX7 hown hK hP 0 rfl rfl 11 (by decide) (ha _ kf_X7_44) (fun _ h9 => h9) rfl dX7_launch_2 ?_
  refine lv_topi (fun x_100 ex_100 => ?_)
  have hE := bd_at ex_100 hE
  have hPc := hP.sub (ws' := [(r0, rdC ov (va_rf ol) r1 r2 r3 r4 r5), (r5, tlC cI tf)]) [0, 5] rfl
  have hDc := hD.sub (ws' := [(r0, rdC ov (va_rf ol) r1 r2 r3 r4 r5), (r5, tlC cI tf)]) [0, 5] (by decide) rfl
  have hFc := va_free (wc := [(r0, rdC ov (va_rf ol) r1 r2 r3 r4 r5), (r5, tlC cI tf)]) hD hS hA [0, 5] rfl
  refine va_calli (va_runV (As := [.int x_100]) (rest := []) ⟨hx, hb, hml, hown, ha⟩ (s_place l D cI cJ cZ cO _ r0 r1 r2 r3 r4 r5 ov tf ol x_100) (cwV 1 ha (gaV kl_X7_50 km_X7_placeOfTold ks_X7_placeOfTold kz_X7 kd_X7_placeOfTold) rfl rfl rfl (by decide +kernel) ⟨Nat.le_of_ble_eq_true rfl, Nat.le_of_ble_eq_true rfl⟩) ⟨pw_blind, va_recv hK hPc (ci := 7) (q0 := 0) rfl rfl, fun U hU hW => ⟨rfl, pw_start hU hW hPc hK hDc hN⟩⟩ rfl rfl hl.1 rfl (lv_room (Nat.le_of_ble_eq_true rfl)) dX7_launch_5 ⟨Nat.le_of_ble_eq_true rfl, Nat.le_of_ble_eq_true rfl⟩) hS (fun q _ h => hFc q h) hFc (fun r_101 u t H1 locs ht hvm hw hB hz1 hk1 hS => ?_)
  obtain ⟨hP1, hK1, hD1⟩ := hB
  have hE := bd_at rfl hE
  have hE := bd_at hw.2 hE
  rw [ht] at hP1
  obtain ⟨hP, hD⟩ := va_joinQ (wr := [(r1, chC cf cl zn 0), (r2, chC cf cl zn 1), (r3, chC cf cl zn 2), (r4, chC cf cl zn 3)]) (w1 := [(r0, rdC ov (va_rf ol) r1 r2 r3 r4 r5), (r5, tlC cI tf)]) hP hD [0, 5] [1, 2, 3, 4] rfl rfl (by decide) (by decide) hk1 hFc hP1 hD1
  generalize H1 = H at hP hS ⊢
  have hP : va_P D vwCl ([(r1, chC cf cl zn 0), (r2, chC cf cl zn 1), (r3, chC cf cl zn 2), (r4, chC cf cl zn 3), (r0, rdC ov (va_rf ol) r1 r2 r3 r4 r5), (r5, tlC cI tf)] ++ va_pl L (pf cJ kd pi bd af bo)) H := hP
  have hD : va_D A ([(r1, chC cf cl zn 0), (r2, chC cf cl zn 1), (r3, chC cf cl zn 2), (r4, chC cf cl zn 3), (r0, rdC ov (va_rf ol) r1 r2 r3 r4 r5), (r5, tlC cI tf)] ++ va_pl L (pf cJ kd pi bd af bo)) := hD
  refine W.widen (k := 0) (n := 0) (Nat.le_of_ble_eq_true rfl) (Nat.le_of_ble_eq_true rfl) ?_
  have hr_101 := hw.1
  refine lv_istore (lv' := [(5, .int r_101), (0, .ref r0), (1, .int n1), (2, .int n2), (3, .int n3), (4, .int n4)]) hx hb dX7_launch_8 hl (by decide) rfl (fun ls hl => ?_)
  refine lv_aload_n hx hb dX7_launch_10 rfl (lv_at hl 1 rfl) ?_
  refine lv_dup hx hb dX7_launch_11 rfl ?_
  refine va_get (D := D) (ci := 7) (v := .int (ov 11)) (C := RX7) (T := TX7) (N := 15) hx hb ha inlX7 hown hK hP 4 rfl rfl 11 (by decide) (ha _ kf_X7_44) (fun _ h9 => h9) rfl dX7_launch_12 ?_
  refine lv_topi (fun x_102 ex_102 => ?_)
  have hE := bd_at ex_102 hE
  refine lv_iconst (v := 1) hx hb dX7_launch_15 (by decide) ?_
  refine lv_iadd hx hb dX7_launch_16 ?_
  refine lv_topi (fun x_103 ex_103 => ?_)
  have hE := bd_at ex_103 hE
  refine va_put (D := D) (ci := 7) (v := .int x_103) (ty := .int) (C := RX7) (T := TX7) (N := 15) hx hb ha inlX7 tyX7 tyX7_ok nmX7 hown hK hP hD hS 4 rfl rfl 11 (by decide) (ha _ kf_X7_44) (fun _ h9 => h9) rfl (by decide +kernel) rfl rfl (Nat.le_of_ble_eq_true rfl) dX7_launch_17 (fun H locs hP hD hS => ?_)
  have hP : va_P D vwCl ([(r1, chC cf cl zn 0), (r2, chC cf cl zn 1), (r3, chC cf cl zn 2), (r4, chC cf cl zn 3), (r0, rdC (upd ov 11 x_103) (va_rf ol) r1 r2 r3 r4 r5), (r5, tlC cI tf)] ++ va_pl L (pf cJ kd pi bd af bo)) H := hP
  have hD : va_D A ([(r1, chC cf cl zn 0), (r2, chC cf cl zn 1), (r3, chC cf cl zn 2), (r4, chC cf cl zn 3), (r0, rdC (upd ov 11 x_103) (va_rf ol) r1 r2 r3 r4 r5), (r5, tlC cI tf)] ++ va_pl L (pf cJ kd pi bd af bo)) := hD
  generalize hg_104 : upd ov 11 x_103 = ov at hP hD
  have hE := bs_at hg_104 hE
  have hT : 0 ≤ ov 10 := by have h9 := congrFun hg_104 10; rw [← h9]; exact hT
  have hLK := LK_of hLK ⟨(congrFun hg_104 1).symm, (congrFun hg_104 2).symm, (congrFun hg_104 3).symm⟩
  refine lv_iload hx hb dX7_launch_20 (lv_at hl 0 rfl) ?_
  refine lv_iconst (v := (-1)) hx hb dX7_launch_22 (by decide) ?_
  refine lv_icmp_eq (tgt := 43) hx hb dX7_launch_23 (by decide) (fun c_105 => ?_) (fun c_105 => ?_)
  · have hE := hE.trans (if_pos c_105)
    refine lv_aload_n hx hb dX7_launch_43 rfl (lv_at hl 1 rfl) ?_
    refine va_get (D := D) (ci := 7) (v := va_rf ol) (C := RX7) (T := TX7) (N := 15) hx hb ha inlX7 hown hK hP 4 rfl rfl 4 (by decide) (ha _ kf_X7_54) (fun _ h9 => h9) rfl dX7_launch_44 ?_
    cases ol with
    | none =>
      have hP : va_P D vwCl ([(r1, chC cf cl zn 0), (r2, chC cf cl zn 1), (r3, chC cf cl zn 2), (r4, chC cf cl zn 3), (r0, rdC ov .null r1 r2 r3 r4 r5), (r5, tlC cI tf)] ++ va_pl L (pf cJ kd pi bd af bo)) _ := hP
      have hD : va_D A ([(r1, chC cf cl zn 0), (r2, chC cf cl zn 1), (r3, chC cf cl zn 2), (r4, chC cf cl zn 3), (r0, rdC ov .null r1 r2 r3 r4 r5), (r5, tlC cI tf)] ++ va_pl L (pf cJ kd pi bd af bo)) := hD
      have hE := om_none (show go = none from hG.1.symm) hE
      refine lv_ifnullN (tgt := 75) hx hb dX7_launch_47 (by decide) ?_
      refine lv_aload_n hx hb dX7_launch_75 rfl (lv_at hl 1 rfl) ?_
      refine va_get (D := D) (ci := 7) (v := .ref r4) (C := RX7) (T := TX7) (N := 15) hx hb ha inlX7 hown hK hP 4 rfl rfl 8 (by decide) (ha _ kf_X7_37) (fun _ h9 => h9) rfl dX7_launch_76 ?_
      have hR0 := hR
      have hPc := hP.part (X := [(r1, chC cf cl zn 0), (r2, chC cf cl zn 1), (r3, chC cf cl zn 2), (r4, chC cf cl zn 3), (r0, rdC ov .null r1 r2 r3 r4 r5), (r5, tlC cI tf)]) (cx := [(r4, chC cf cl zn 3)]) (pl := va_pl L (pf cJ kd pi bd af bo)) [3] rfl
      have hDc := hD.part (X := [(r1, chC cf cl zn 0), (r2, chC cf cl zn 1), (r3, chC cf cl zn 2), (r4, chC cf cl zn 3), (r0, rdC ov .null r1 r2 r3 r4 r5), (r5, tlC cI tf)]) (cx := [(r4, chC cf cl zn 3)]) (pl := va_pl L (pf cJ kd pi bd af bo)) [3] (by decide) rfl
      have hFc := va_freeP (X := [(r1, chC cf cl zn 0), (r2, chC cf cl zn 1), (r3, chC cf cl zn 2), (r4, chC cf cl zn 3), (r0, rdC ov .null r1 r2 r3 r4 r5), (r5, tlC cI tf)]) (cx := [(r4, chC cf cl zn 3)]) (pl := va_pl L (pf cJ kd pi bd af bo)) hD hS hA [3] rfl
      refine va_callq (va_runV (As := []) (rest := []) ⟨hx, hb, hml, hown, ha⟩ (s_takeFirst l D cI cJ cZ cO _ r4 L kd pi bd af bo (cf 3) (cl 3) (zn 3) (RI_fi hR (by decide)) (RI_cl hR (by decide))) (cwV 0 ha (gaV kl_X7_67 km_X1_takeFirst ks_X1_takeFirst kz_X1 kd_X1_takeFirst) rfl rfl rfl (by decide +kernel) ⟨Nat.le_of_ble_eq_true rfl, Nat.le_of_ble_eq_true rfl⟩) ⟨pw_blind, va_recv hK hPc (ci := 1) (q0 := 0) rfl rfl, fun U hU hW => ⟨rfl, pw_start hU hW hPc hK hDc hN⟩⟩ rfl rfl hl.1 rfl (lv_room (Nat.le_of_ble_eq_true rfl)) dX7_launch_79 ⟨Nat.le_of_ble_eq_true rfl, Nat.le_of_ble_eq_true rfl⟩) hS (fun q _ h => hFc q h) hFc (fun r_107 u t H1 locs ht hvm hw hB hz1 hk1 hS => ?_)
      obtain ⟨hP1, hK1, hD1⟩ := hB
      rw [ht] at hP1
      obtain ⟨hP, hD⟩ := va_joinP (wr := [(r1, chC cf cl zn 0), (r2, chC cf cl zn 1), (r3, chC cf cl zn 2), (r0, rdC ov .null r1 r2 r3 r4 r5), (r5, tlC cI tf)]) (rx := [(r4, .inr (1, [va_rf (tk_fi af (cf 3)), va_rf (tk_la af (cf 3) (cl 3)), .int (tk_n (cf 3) (zn 3))]))]) (pl1 := va_pl L (pf cJ kd pi bd (tk_af af (cf 3)) bo)) hP hD [3] [0, 1, 2, 4, 5] rfl rfl (by decide) (by decide) hk1 hFc hP1 hD1
      generalize H1 = H at hP hS ⊢
      have hP : va_P D vwCl ([(r1, chC cf cl zn 0), (r2, chC cf cl zn 1), (r3, chC cf cl zn 2), (r0, rdC ov .null r1 r2 r3 r4 r5), (r5, tlC cI tf), (r4, .inr (1, [va_rf (tk_fi af (cf 3)), va_rf (tk_la af (cf 3) (cl 3)), .int (tk_n (cf 3) (zn 3))]))] ++ va_pl L (pf cJ kd pi bd (tk_af af (cf 3)) bo)) H := hP
      have hD : va_D A ([(r1, chC cf cl zn 0), (r2, chC cf cl zn 1), (r3, chC cf cl zn 2), (r0, rdC ov .null r1 r2 r3 r4 r5), (r5, tlC cI tf), (r4, .inr (1, [va_rf (tk_fi af (cf 3)), va_rf (tk_la af (cf 3) (cl 3)), .int (tk_n (cf 3) (zn 3))]))] ++ va_pl L (pf cJ kd pi bd (tk_af af (cf 3)) bo)) := hD
      refine W.widen (k := 0) (n := 0) (Nat.le_of_ble_eq_true rfl) (Nat.le_of_ble_eq_true rfl) ?_
      obtain rfl : (cf 3) = r_107 := (hw).symm
      have hZ := ZN_tk hZ hR0 (j := 3) (by decide)
      have hR := RI_tk hR0 (i := 3) (by decide)
      cases ho_109 : cf 3 with
      | none =>
        rw [ho_109] at hR hZ hP hD
        have hQ := QQ_tkn3 hQ hR0 ho_109
        have hn3 : va_up cf 3 (tk_fi af none) 3 = none := va_up_self _ _ _
        have hG := GG_x3 (l := (xl 3).tail) hG
        have hP : va_P D vwCl ([(r1, .inr (1, [va_rf (va_up cf 3 (tk_fi af none) 0), va_rf (va_up cl 3 (tk_la af none (cl 3)) 0), .int (va_up zn 3 (tk_n none (zn 3)) 0)])), (r2, .inr (1, [va_rf (va_up cf 3 (tk_fi af none) 1), va_rf (va_up cl 3 (tk_la af none (cl 3)) 1), .int (va_up zn 3 (tk_n none (zn 3)) 1)])), (r3, .inr (1, [va_rf (va_up cf 3 (tk_fi af none) 2), va_rf (va_up cl 3 (tk_la af none (cl 3)) 2), .int (va_up zn 3 (tk_n none (zn 3)) 2)])), (r0, rdC ov .null r1 r2 r3 r4 r5), (r5, tlC cI tf), (r4, .inr (1, [va_rf (va_up cf 3 (tk_fi af none) 3), va_rf (va_up cl 3 (tk_la af none (cl 3)) 3), .int (va_up zn 3 (tk_n none (zn 3)) 3)]))] ++ va_pl L (pf cJ kd pi bd (tk_af af none) bo)) H := hP
        have hD : va_D A ([(r1, .inr (1, [va_rf (va_up cf 3 (tk_fi af none) 0), va_rf (va_up cl 3 (tk_la af none (cl 3)) 0), .int (va_up zn 3 (tk_n none (zn 3)) 0)])), (r2, .inr (1, [va_rf (va_up cf 3 (tk_fi af none) 1), va_rf (va_up cl 3 (tk_la af none (cl 3)) 1), .int (va_up zn 3 (tk_n none (zn 3)) 1)])), (r3, .inr (1, [va_rf (va_up cf 3 (tk_fi af none) 2), va_rf (va_up cl 3 (tk_la af none (cl 3)) 2), .int (va_up zn 3 (tk_n none (zn 3)) 2)])), (r0, rdC ov .null r1 r2 r3 r4 r5), (r5, tlC cI tf), (r4, .inr (1, [va_rf (va_up cf 3 (tk_fi af none) 3), va_rf (va_up cl 3 (tk_la af none (cl 3)) 3), .int (va_up zn 3 (tk_n none (zn 3)) 3)]))] ++ va_pl L (pf cJ kd pi bd (tk_af af none) bo)) := hD
        generalize g_110 : va_up cf 3 (tk_fi af none) = cf at hP hD hR hn3
        generalize g_111 : va_up cl 3 (tk_la af none (cl 3)) = cl at hP hD hR
        generalize g_112 : va_up zn 3 (tk_n none (zn 3)) = zn at hP hD hZ
        generalize g_113 : va_up xl 3 (xl 3).tail = xl at hR hZ hQ hG
        generalize g_114 : tk_tag tag none = tag at hR hQ
        generalize (tk_af af none) = af at hP hD hR
        refine lv_astoreN (lv' := [(6, .null), (5, .int r_101), (0, .ref r0), (1, .int n1), (2, .int n2), (3, .int n3), (4, .int n4)]) hx hb dX7_launch_82 hl (by decide) rfl (fun ls hl => ?_)
        refine lv_aloadN hx hb dX7_launch_84 (lv_at hl 0 rfl) ?_
        refine lv_ifnonnullN hx hb dX7_launch_86 ?_
        refine va_new (ci := 5) (fs := [.int 0, .int 0, .int 0, .int 0, .int 0, .null, .null]) (C := RX5) (T := TX5) (N := 7) hx hb ha inlX5 tyX5 tyX5_ok hown (ha _ kc_X7_59) (ha _ ki_X5) (ha _ kz_X5) hK hP hD hS hA rfl (by decide) (Nat.le_of_ble_eq_true rfl) (Nat.le_of_ble_eq_true rfl) dX7_launch_89 (fun q_115 H hP hD hS => ?_)
        have hP := va_P.swap (a := [(r1, chC cf cl zn 0), (r2, chC cf cl zn 1), (r3, chC cf cl zn 2), (r0, rdC ov .null r1 r2 r3 r4 r5), (r5, tlC cI tf), (r4, chC cf cl zn 3)]) (b := va_pl L (pf cJ kd pi bd af bo)) (c := [(q_115, .inr (5, [.int 0, .int 0, .int 0, .int 0, .int 0, .null, .null]))]) hP
        have n_q_115 : q_115 ∉ L := va_pl_fresh2 (X := [(r1, chC cf cl zn 0), (r2, chC cf cl zn 1), (r3, chC cf cl zn 2), (r0, rdC ov .null r1 r2 r3 r4 r5), (r5, tlC cI tf), (r4, chC cf cl zn 3)]) (f := pf cJ kd pi bd af bo) (e := .inr (5, [.int 0, .int 0, .int 0, .int 0, .int 0, .null, .null])) hD
        have hD := va_D.swap (a := [(r1, chC cf cl zn 0), (r2, chC cf cl zn 1), (r3, chC cf cl zn 2), (r0, rdC ov .null r1 r2 r3 r4 r5), (r5, tlC cI tf), (r4, chC cf cl zn 3)]) (b := va_pl L (pf cJ kd pi bd af bo)) (c := [(q_115, .inr (5, [.int 0, .int 0, .int 0, .int 0, .int 0, .null, .null]))]) hD
        have hP : va_P D vwCl ([(r1, chC cf cl zn 0), (r2, chC cf cl zn 1), (r3, chC cf cl zn 2), (r0, rdC ov .null r1 r2 r3 r4 r5), (r5, tlC cI tf), (r4, chC cf cl zn 3), (q_115, .inr (5, [.int 0, .int 0, .int 0, .int 0, .int 0, .null, .null]))] ++ va_pl L (pf cJ kd pi bd af bo)) H := hP
        have hD : va_D A ([(r1, chC cf cl zn 0), (r2, chC cf cl zn 1), (r3, chC cf cl zn 2), (r0, rdC ov .null r1 r2 r3 r4 r5), (r5, tlC cI tf), (r4, chC cf cl zn 3), (q_115, .inr (5, [.int 0, .int 0, .int 0, .int 0, .int 0, .null, .null]))] ++ va_pl L (pf cJ kd pi bd af bo)) := hD
        refine W.widen (k := 1) (n := 7) (Nat.le_of_ble_eq_true rfl) (Nat.le_of_ble_eq_true rfl) ?_
        refine lv_dup hx hb dX7_launch_92 rfl ?_
        have hPc := hP.sub (ws' := [(q_115, .inr (5, [.int 0, .int 0, .int 0, .int 0, .int 0, .null, .null]))]) [6] rfl
        have hDc := hD.sub (ws' := [(q_115, .inr (5, [.int 0, .int 0, .int 0, .int 0, .int 0, .null, .null]))]) [6] (by decide) rfl
        have hFc := va_free (wc := [(q_115, .inr (5, [.int 0, .int 0, .int 0, .int 0, .int 0, .null, .null]))]) hD hS hA [6] rfl
        refine va_callv (va_runIN (As := []) (rest := [.ref q_115]) ⟨hx, hb, hml, hown, ha⟩ (s_Parcel l D cI cJ cZ cO _ q_115) ⟨va_cnB 0 ha (gaI kd_X5_init) rfl rfl rfl (hN.m RX7 84 yX5_init "CongestionBench" (by decide +kernel)) (ha _ kz_X5) (by decide +kernel) ⟨Nat.le_of_ble_eq_true rfl, Nat.le_of_ble_eq_true rfl⟩, rfl, ha _ km_X5_init⟩ ⟨pw_blind, fun U hU hW => ⟨rfl, pw_start hU hW hPc hK hDc hN⟩⟩ rfl rfl hl.1 rfl (lv_room (Nat.le_of_ble_eq_true rfl)) dX7_launch_93 ⟨Nat.le_of_ble_eq_true rfl, Nat.le_of_ble_eq_true rfl⟩) hS (fun q _ h => hFc q h) hFc (fun u t H1 locs ht hvm hw hB hz1 hk1 hS => ?_)
        obtain ⟨q_117, hP1, hK1, hD1⟩ := hB
        rw [ht] at hP1
        obtain ⟨hP, hD⟩ := va_joinQ (wr := [(r1, chC cf cl zn 0), (r2, chC cf cl zn 1), (r3, chC cf cl zn 2), (r0, rdC ov .null r1 r2 r3 r4 r5), (r5, tlC cI tf), (r4, chC cf cl zn 3)]) (w1 := [(q_115, .inr (5, [.int 0, .int 0, .int 0, .int 0, .int 0, .ref q_117, .null])), (q_117, .inl (cJ, 4, .inr (.inl (fun _ => 0))))]) hP hD [6] [0, 1, 2, 3, 4, 5] rfl rfl (by decide) (by decide) hk1 hFc hP1 hD1
        generalize H1 = H at hP hS ⊢
        have hP : va_P D vwCl ([(r1, chC cf cl zn 0), (r2, chC cf cl zn 1), (r3, chC cf cl zn 2), (r0, rdC ov .null r1 r2 r3 r4 r5), (r5, tlC cI tf), (r4, chC cf cl zn 3), (q_115, .inr (5, [.int 0, .int 0, .int 0, .int 0, .int 0, .ref q_117, .null])), (q_117, .inl (cJ, 4, .inr (.inl (fun _ => 0))))] ++ va_pl L (pf cJ kd pi bd af bo)) H := hP
        have hD : va_D A ([(r1, chC cf cl zn 0), (r2, chC cf cl zn 1), (r3, chC cf cl zn 2), (r0, rdC ov .null r1 r2 r3 r4 r5), (r5, tlC cI tf), (r4, chC cf cl zn 3), (q_115, .inr (5, [.int 0, .int 0, .int 0, .int 0, .int 0, .ref q_117, .null])), (q_117, .inl (cJ, 4, .inr (.inl (fun _ => 0))))] ++ va_pl L (pf cJ kd pi bd af bo)) := hD
        refine W.widen (k := 2) (n := 11) (Nat.le_of_ble_eq_true rfl) (Nat.le_of_ble_eq_true rfl) ?_
        have hP : va_P D vwCl (([(r1, chC cf cl zn 0), (r2, chC cf cl zn 1), (r3, chC cf cl zn 2), (r0, rdC ov .null r1 r2 r3 r4 r5), (r5, tlC cI tf), (r4, chC cf cl zn 3)] ++ [(q_115, .inr (5, [.int 0, .int 0, .int 0, .int 0, .int 0, .ref q_117, va_rf none])), (q_117, .inl (cJ, 4, .inr (.inl (fun _ => 0))))]) ++ va_pl L (pf cJ kd pi bd af bo)) H := hP.part (X := [(r1, chC cf cl zn 0), (r2, chC cf cl zn 1), (r3, chC cf cl zn 2), (r0, rdC ov .null r1 r2 r3 r4 r5), (r5, tlC cI tf), (r4, chC cf cl zn 3), (q_115, .inr (5, [.int 0, .int 0, .int 0, .int 0, .int 0, .ref q_117, va_rf none])), (q_117, .inl (cJ, 4, .inr (.inl (fun _ => 0))))]) (cx := [(r1, chC cf cl zn 0), (r2, chC cf cl zn 1), (r3, chC cf cl zn 2), (r0, rdC ov .null r1 r2 r3 r4 r5), (r5, tlC cI tf), (r4, chC cf cl zn 3), (q_115, .inr (5, [.int 0, .int 0, .int 0, .int 0, .int 0, .ref q_117, va_rf none])), (q_117, .inl (cJ, 4, .inr (.inl (fun _ => 0))))]) (pl := va_pl L (pf cJ kd pi bd af bo)) [0, 1, 2, 3, 4, 5, 6, 7] rfl
        have hD : va_D A (([(r1, chC cf cl zn 0), (r2, chC cf cl zn 1), (r3, chC cf cl zn 2), (r0, rdC ov .null r1 r2 r3 r4 r5), (r5, tlC cI tf), (r4, chC cf cl zn 3)] ++ [(q_115, .inr (5, [.int 0, .int 0, .int 0, .int 0, .int 0, .ref q_117, va_rf none])), (q_117, .inl (cJ, 4, .inr (.inl (fun _ => 0))))]) ++ va_pl L (pf cJ kd pi bd af bo)) := hD.part (X := [(r1, chC cf cl zn 0), (r2, chC cf cl zn 1), (r3, chC cf cl zn 2), (r0, rdC ov .null r1 r2 r3 r4 r5), (r5, tlC cI tf), (r4, chC cf cl zn 3), (q_115, .inr (5, [.int 0, .int 0, .int 0, .int 0, .int 0, .ref q_117, va_rf none])), (q_117, .inl (cJ, 4, .inr (.inl (fun _ => 0))))]) (cx := [(r1, chC cf cl zn 0), (r2, chC cf cl zn 1), (r3, chC cf cl zn 2), (r0, rdC ov .null r1 r2 r3 r4 r5), (r5, tlC cI tf), (r4, chC cf cl zn 3), (q_115, .inr (5, [.int 0, .int 0, .int 0, .int 0, .int 0, .ref q_117, va_rf none])), (q_117, .inl (cJ, 4, .inr (.inl (fun _ => 0))))]) (pl := va_pl L (pf cJ kd pi bd af bo)) [0, 1, 2, 3, 4, 5, 6, 7] (by decide) rfl
        have hP := va_P.swap (a := [(r1, chC cf cl zn 0), (r2, chC cf cl zn 1), (r3, chC cf cl zn 2), (r0, rdC ov .null r1 r2 r3 r4 r5), (r5, tlC cI tf), (r4, chC cf cl zn 3)]) (b := [(q_115, .inr (5, [.int 0, .int 0, .int 0, .int 0, .int 0, .ref q_117, va_rf none])), (q_117, .inl (cJ, 4, .inr (.inl (fun _ => 0))))]) (c := va_pl L (pf cJ kd pi bd af bo)) hP
        have hD := va_D.swap (a := [(r1, chC cf cl zn 0), (r2, chC cf cl zn 1), (r3, chC cf cl zn 2), (r0, rdC ov .null r1 r2 r3 r4 r5), (r5, tlC cI tf), (r4, chC cf cl zn 3)]) (b := [(q_115, .inr (5, [.int 0, .int 0, .int 0, .int 0, .int 0, .ref q_117, va_rf none])), (q_117, .inl (cJ, 4, .inr (.inl (fun _ => 0))))]) (c := va_pl L (pf cJ kd pi bd af bo)) hD
        obtain ⟨n_q_115b, n_q_117b⟩ := pl_apart (X := [(r1, chC cf cl zn 0), (r2, chC cf cl zn 1), (r3, chC cf cl zn 2), (r0, rdC ov .null r1 r2 r3 r4 r5), (r5, tlC cI tf), (r4, chC cf cl zn 3)]) (f := pf cJ kd pi bd af bo) hD
        rw [pl_new n_q_115 n_q_117b.1 n_q_117b.2, pf_new n_q_117b.2] at hP hD
        have o_q_115 := QQ_ob hQ n_q_115
        have hQ := QQ_born hQ hR n_q_115 n_q_117b.1 hn3
        have hG := GG_born (v := fun _ => 0) hG hR hPB n_q_115 n_q_117b.1
        have hJ := JB_born hJ hPB n_q_115 n_q_117b.1 n_q_117b.2
        have hR := RI_born hR n_q_115 n_q_117b.1
        have hPB := PB_born hPB n_q_115 n_q_117b.1 n_q_117b.2
        have m_q_115 : q_115 ∈ L ++ [q_115, q_117] := by simp
        have k_q_115 : va_up (va_up kd q_115 false) q_117 true q_115 = false := by rw [va_up_ne _ _ n_q_117b.2, va_up_self]
        have t_q_115 : va_up tag q_115 6 q_115 = 6 := va_up_self _ _ _
        have hP : va_P D vwCl ([(r1, chC cf cl zn 0), (r2, chC cf cl zn 1), (r3, chC cf cl zn 2), (r0, rdC ov .null r1 r2 r3 r4 r5), (r5, tlC cI tf), (r4, chC cf cl zn 3)] ++ va_pl (L ++ [q_115, q_117]) (pf cJ (va_up (va_up kd q_115 false) q_117 true) (fun k => va_up (pi k) q_115 0) (va_up bd q_115 q_117) (va_up af q_115 none) (va_up bo q_117 (fun _ => 0)))) H := hP
        have hD : va_D A ([(r1, chC cf cl zn 0), (r2, chC cf cl zn 1), (r3, chC cf cl zn 2), (r0, rdC ov .null r1 r2 r3 r4 r5), (r5, tlC cI tf), (r4, chC cf cl zn 3)] ++ va_pl (L ++ [q_115, q_117]) (pf cJ (va_up (va_up kd q_115 false) q_117 true) (fun k => va_up (pi k) q_115 0) (va_up bd q_115 q_117) (va_up af q_115 none) (va_up bo q_117 (fun _ => 0)))) := hD
        generalize L ++ [q_115, q_117] = L at hP hD hR hPB hQ hJ m_q_115
        generalize va_up (va_up kd q_115 false) q_117 true = kd at hP hD hR hPB hQ hJ k_q_115
        generalize (fun k => va_up (pi k) q_115 0) = pi at hP hD hPB hQ hG
        generalize va_up bd q_115 q_117 = bd at hP hD hPB hG hJ
        generalize va_up af q_115 none = af at hP hD hR
        generalize va_up bo q_117 (fun _ => 0) = bo at hP hD hG
        generalize va_up tag q_115 6 = tag at hR hQ t_q_115
        refine lv_astore (lv' := [(6, .ref q_115), (5, .int r_101), (0, .ref r0), (1, .int n1), (2, .int n2), (3, .int n3), (4, .int n4)]) hx hb dX7_launch_96 hl (by decide) rfl (fun ls hl => ?_)
        refine lv_aload hx hb dX7_launch_98 (lv_at hl 0 rfl) ?_
        refine lv_iload_n hx hb dX7_launch_100 rfl (lv_at hl 3 rfl) ?_
        obtain ⟨k_118, hk_118⟩ := va_pl_get (X := [(r1, chC cf cl zn 0), (r2, chC cf cl zn 1), (r3, chC cf cl zn 2), (r0, rdC ov .null r1 r2 r3 r4 r5), (r5, tlC cI tf), (r4, chC cf cl zn 3)]) (f := pf cJ kd pi bd af bo) m_q_115
        refine va_putN (D := D) (ci := 5) (v := .int n1) (ty := .int) (C := RX5) (T := TX5) (N := 7) hx hb ha inlX5 tyX5 tyX5_ok nmX5 hown hK hP hD hS k_118 (hk_118.trans (congrArg (fun z => some (q_115, z)) (pf_p k_q_115))) rfl 1 (by decide) (va_Nw.use rfl (hN.f RX7 85 "CongestionBench$Parcel" "flow" "I" "CongestionBench" (by decide +kernel))) (fun _ h9 => h9) rfl (by decide +kernel) rfl rfl (Nat.le_of_ble_eq_true rfl) dX7_launch_101 (fun H locs hP1 hD1 hS => ?_)
        have hP : va_P D vwCl ([(r1, chC cf cl zn 0), (r2, chC cf cl zn 1), (r3, chC cf cl zn 2), (r0, rdC ov .null r1 r2 r3 r4 r5), (r5, tlC cI tf), (r4, chC cf cl zn 3)] ++ va_pl L (pf cJ kd (upp pi 1 q_115 n1) bd af bo)) H := by rw [← pf_u1 k_q_115, ← va_pl_set hD m_q_115 hk_118]; exact hP1
        have hD : va_D A ([(r1, chC cf cl zn 0), (r2, chC cf cl zn 1), (r3, chC cf cl zn 2), (r0, rdC ov .null r1 r2 r3 r4 r5), (r5, tlC cI tf), (r4, chC cf cl zn 3)] ++ va_pl L (pf cJ kd (upp pi 1 q_115 n1) bd af bo)) := by rw [← pf_u1 k_q_115, ← va_pl_set hD m_q_115 hk_118]; exact hD1
        have hPB := PB_due (k := 1) (a := q_115) (x := n1) hPB (by decide)
        have hQ := QQ_pi (k := 1) (q := q_115) (x := n1) hQ hR t_q_115
        have hG := GG_pi (k := 1) (z := q_115) (x := n1) hG hR t_q_115
        generalize g_119 : upp pi 1 q_115 n1 = pi at hP hD hPB hQ hG
        have p1_q_115 : pi 1 q_115 = n1 := by rw [← g_119]; exact upp_eq
        refine lv_aload hx hb dX7_launch_104 (lv_at hl 0 rfl) ?_
        refine lv_iload_n hx hb dX7_launch_106 rfl (lv_at hl 4 rfl) ?_
        obtain ⟨k_120, hk_120⟩ := va_pl_get (X := [(r1, chC cf cl zn 0), (r2, chC cf cl zn 1), (r3, chC cf cl zn 2), (r0, rdC ov .null r1 r2 r3 r4 r5), (r5, tlC cI tf), (r4, chC cf cl zn 3)]) (f := pf cJ kd pi bd af bo) m_q_115
        refine va_putN (D := D) (ci := 5) (v := .int n2) (ty := .int) (C := RX5) (T := TX5) (N := 7) hx hb ha inlX5 tyX5 tyX5_ok nmX5 hown hK hP hD hS k_120 (hk_120.trans (congrArg (fun z => some (q_115, z)) (pf_p k_q_115))) rfl 2 (by decide) (va_Nw.use rfl (hN.f RX7 88 "CongestionBench$Parcel" "number" "I" "CongestionBench" (by decide +kernel))) (fun _ h9 => h9) rfl (by decide +kernel) rfl rfl (Nat.le_of_ble_eq_true rfl) dX7_launch_107 (fun H locs hP1 hD1 hS => ?_)
        have hP : va_P D vwCl ([(r1, chC cf cl zn 0), (r2, chC cf cl zn 1), (r3, chC cf cl zn 2), (r0, rdC ov .null r1 r2 r3 r4 r5), (r5, tlC cI tf), (r4, chC cf cl zn 3)] ++ va_pl L (pf cJ kd (upp pi 2 q_115 n2) bd af bo)) H := by rw [← pf_u2 k_q_115, ← va_pl_set hD m_q_115 hk_120]; exact hP1
        have hD : va_D A ([(r1, chC cf cl zn 0), (r2, chC cf cl zn 1), (r3, chC cf cl zn 2), (r0, rdC ov .null r1 r2 r3 r4 r5), (r5, tlC cI tf), (r4, chC cf cl zn 3)] ++ va_pl L (pf cJ kd (upp pi 2 q_115 n2) bd af bo)) := by rw [← pf_u2 k_q_115, ← va_pl_set hD m_q_115 hk_120]; exact hD1
        have hPB := PB_due (k := 2) (a := q_115) (x := n2) hPB (by decide)
        have hQ := QQ_pi (k := 2) (q := q_115) (x := n2) hQ hR t_q_115
        have hG := GG_pi (k := 2) (z := q_115) (x := n2) hG hR t_q_115
        generalize g_121 : upp pi 2 q_115 n2 = pi at hP hD hPB hQ hG
        have p1_q_115 : pi 1 q_115 = n1 := by rw [← g_121]; exact (upp_ne (by decide)).trans p1_q_115
        have p2_q_115 : pi 2 q_115 = n2 := by rw [← g_121]; exact upp_eq
        refine lv_aload hx hb dX7_launch_110 (lv_at hl 0 rfl) ?_
        refine lv_iload_n hx hb dX7_launch_112 rfl (lv_at hl 5 rfl) ?_
        obtain ⟨k_122, hk_122⟩ := va_pl_get (X := [(r1, chC cf cl zn 0), (r2, chC cf cl zn 1), (r3, chC cf cl zn 2), (r0, rdC ov .null r1 r2 r3 r4 r5), (r5, tlC cI tf), (r4, chC cf cl zn 3)]) (f := pf cJ kd pi bd af bo) m_q_115
        refine va_putN (D := D) (ci := 5) (v := .int n3) (ty := .boolean) (C := RX5) (T := TX5) (N := 7) hx hb ha inlX5 tyX5 tyX5_ok nmX5 hown hK hP hD hS k_122 (hk_122.trans (congrArg (fun z => some (q_115, z)) (pf_p k_q_115))) rfl 3 (by decide) (va_Nw.use rfl (hN.f RX7 91 "CongestionBench$Parcel" "special" "Z" "CongestionBench" (by decide +kernel))) (fun _ h9 => h9) rfl (by decide +kernel) (by rcases hz with h | h <;> rw [h] <;> rfl) (by rcases hz with h | h <;> rw [h] <;> rfl) (Nat.le_of_ble_eq_true rfl) dX7_launch_113 (fun H locs hP1 hD1 hS => ?_)
        have hP : va_P D vwCl ([(r1, chC cf cl zn 0), (r2, chC cf cl zn 1), (r3, chC cf cl zn 2), (r0, rdC ov .null r1 r2 r3 r4 r5), (r5, tlC cI tf), (r4, chC cf cl zn 3)] ++ va_pl L (pf cJ kd (upp pi 3 q_115 n3) bd af bo)) H := by rw [← pf_u3 k_q_115, ← va_pl_set hD m_q_115 hk_122]; exact hP1
        have hD : va_D A ([(r1, chC cf cl zn 0), (r2, chC cf cl zn 1), (r3, chC cf cl zn 2), (r0, rdC ov .null r1 r2 r3 r4 r5), (r5, tlC cI tf), (r4, chC cf cl zn 3)] ++ va_pl L (pf cJ kd (upp pi 3 q_115 n3) bd af bo)) := by rw [← pf_u3 k_q_115, ← va_pl_set hD m_q_115 hk_122]; exact hD1
        have hPB := PB_spec (a := q_115) (x := n3) hPB hz
        have hQ := QQ_pi (k := 3) (q := q_115) (x := n3) hQ hR t_q_115
        have hG := GG_pi (k := 3) (z := q_115) (x := n3) hG hR t_q_115
        generalize g_123 : upp pi 3 q_115 n3 = pi at hP hD hPB hQ hG
        have p1_q_115 : pi 1 q_115 = n1 := by rw [← g_123]; exact (upp_ne (by decide)).trans p1_q_115
        have p2_q_115 : pi 2 q_115 = n2 := by rw [← g_123]; exact (upp_ne (by decide)).trans p2_q_115
        have p3_q_115 : pi 3 q_115 = n3 := by rw [← g_123]; exact upp_eq
        refine lv_aload_n hx hb dX7_launch_116 rfl (lv_at hl 2 rfl) ?_
        refine va_get (D := D) (ci := 7) (v := .null) (C := RX7) (T := TX7) (N := 15) hx hb ha inlX7 hown hK hP 3 rfl rfl 4 (by decide) (ha _ kf_X7_54) (fun _ h9 => h9) rfl dX7_launch_117 ?_
        refine lv_ifnonnullN hx hb dX7_launch_120 ?_
        refine lv_aload hx hb dX7_launch_123 (lv_at hl 0 rfl) ?_
        refine lv_iload hx hb dX7_launch_125 (lv_at hl 6 rfl) ?_
        refine lv_aload_n hx hb dX7_launch_127 rfl (lv_at hl 2 rfl) ?_
        refine va_get (D := D) (ci := 7) (v := .int (ov 0)) (C := RX7) (T := TX7) (N := 15) hx hb ha inlX7 hown hK hP 3 rfl rfl 0 (by decide) (ha _ kf_X7_9) (fun _ h9 => h9) rfl dX7_launch_128 ?_
        refine lv_topi (fun x_124 ex_124 => ?_)
        have hE := bd_at ex_124 hE
        refine lv_iadd hx hb dX7_launch_131 ?_
        refine lv_topi (fun x_125 ex_125 => ?_)
        have hE := bd_at ex_125 hE
        obtain ⟨k_126, hk_126⟩ := va_pl_get (X := [(r1, chC cf cl zn 0), (r2, chC cf cl zn 1), (r3, chC cf cl zn 2), (r0, rdC ov .null r1 r2 r3 r4 r5), (r5, tlC cI tf), (r4, chC cf cl zn 3)]) (f := pf cJ kd pi bd af bo) m_q_115
        refine va_putN (D := D) (ci := 5) (v := .int x_125) (ty := .int) (C := RX5) (T := TX5) (N := 7) hx hb ha inlX5 tyX5 tyX5_ok nmX5 hown hK hP hD hS k_126 (hk_126.trans (congrArg (fun z => some (q_115, z)) (pf_p k_q_115))) rfl 0 (by decide) (va_Nw.use rfl (hN.f RX7 58 "CongestionBench$Parcel" "due" "I" "CongestionBench" (by decide +kernel))) (fun _ h9 => h9) rfl (by decide +kernel) rfl rfl (Nat.le_of_ble_eq_true rfl) dX7_launch_132 (fun H locs hP1 hD1 hS => ?_)
        have hP : va_P D vwCl ([(r1, chC cf cl zn 0), (r2, chC cf cl zn 1), (r3, chC cf cl zn 2), (r0, rdC ov .null r1 r2 r3 r4 r5), (r5, tlC cI tf), (r4, chC cf cl zn 3)] ++ va_pl L (pf cJ kd (upp pi 0 q_115 x_125) bd af bo)) H := by rw [← pf_u0 k_q_115, ← va_pl_set hD m_q_115 hk_126]; exact hP1
        have hD : va_D A ([(r1, chC cf cl zn 0), (r2, chC cf cl zn 1), (r3, chC cf cl zn 2), (r0, rdC ov .null r1 r2 r3 r4 r5), (r5, tlC cI tf), (r4, chC cf cl zn 3)] ++ va_pl L (pf cJ kd (upp pi 0 q_115 x_125) bd af bo)) := by rw [← pf_u0 k_q_115, ← va_pl_set hD m_q_115 hk_126]; exact hD1
        have hPB := PB_due (k := 0) (a := q_115) (x := x_125) hPB (by decide)
        have hQ := QQ_pi (k := 0) (q := q_115) (x := x_125) hQ hR t_q_115
        have hG := GG_pi (k := 0) (z := q_115) (x := x_125) hG hR t_q_115
        generalize g_127 : upp pi 0 q_115 x_125 = pi at hP hD hPB hQ hG
        have p1_q_115 : pi 1 q_115 = n1 := by rw [← g_127]; exact (upp_ne (by decide)).trans p1_q_115
        have p2_q_115 : pi 2 q_115 = n2 := by rw [← g_127]; exact (upp_ne (by decide)).trans p2_q_115
        have p3_q_115 : pi 3 q_115 = n3 := by rw [← g_127]; exact (upp_ne (by decide)).trans p3_q_115
        have p0_q_115 : pi 0 q_115 = x_125 := by rw [← g_127]; exact upp_eq
        have p_q_115 := p0_q_115
        refine lv_aload_n hx hb dX7_launch_135 rfl (lv_at hl 2 rfl) ?_
        refine lv_aload hx hb dX7_launch_136 (lv_at hl 0 rfl) ?_
        refine va_put (D := D) (ci := 7) (v := .ref q_115) (ty := .object "CongestionBench$Parcel") (C := RX7) (T := TX7) (N := 15) hx hb ha inlX7 tyX7 tyX7_ok nmX7 hown hK hP hD hS 3 rfl rfl 4 (by decide) (ha _ kf_X7_54) (fun _ h9 => h9) rfl (by decide +kernel) rfl rfl (Nat.le_of_ble_eq_true rfl) dX7_launch_138 (fun H locs hP hD hS => ?_)
        have hP : va_P D vwCl ([(r1, chC cf cl zn 0), (r2, chC cf cl zn 1), (r3, chC cf cl zn 2), (r0, rdC ov (.ref q_115) r1 r2 r3 r4 r5), (r5, tlC cI tf), (r4, chC cf cl zn 3)] ++ va_pl L (pf cJ kd pi bd af bo)) H := hP
        have hD : va_D A ([(r1, chC cf cl zn 0), (r2, chC cf cl zn 1), (r3, chC cf cl zn 2), (r0, rdC ov (.ref q_115) r1 r2 r3 r4 r5), (r5, tlC cI tf), (r4, chC cf cl zn 3)] ++ va_pl L (pf cJ kd pi bd af bo)) := hD
        have hR := RI_on hR m_q_115 k_q_115 t_q_115
        have hQ := QQ_on hQ o_q_115
        generalize va_up tag q_115 5 = tag at hR hQ
        have hG := GG_on (z := q_115) hG
        rw [show cs pi q_115 = (x_125, n1, n2, n3) by unfold cs; rw [p0_q_115, p1_q_115, p2_q_115, p3_q_115]] at hG
        generalize hgh_128 : (some (x_125, n1, n2, n3) : Option S4) = go at hG
        have hE := bs_at hgh_128 hE
        refine lv_goto (tgt := 153) hx hb dX7_launch_141 (by decide) ?_
        refine W.know2 (fun hk1 hk2 => ?_)
        have hgr : gr s.heap _ 1 := ⟨hk1, hk2⟩
        have hP9 : va_P D vwCl ([(r0, rdC ov (va_rf (some q_115)) r1 r2 r3 r4 r5), (r1, chC cf cl zn 0), (r2, chC cf cl zn 1), (r3, chC cf cl zn 2), (r4, chC cf cl zn 3), (r5, tlC cI tf)] ++ va_pl L (pf cJ kd pi bd af bo)) _ := hP.part [3, 0, 1, 2, 5, 4] rfl
        have hD9 : va_D A ([(r0, rdC ov (va_rf (some q_115)) r1 r2 r3 r4 r5), (r1, chC cf cl zn 0), (r2, chC cf cl zn 1), (r3, chC cf cl zn 2), (r4, chC cf cl zn 3), (r5, tlC cI tf)] ++ va_pl L (pf cJ kd pi bd af bo)) := hD.part [3, 0, 1, 2, 5, 4] (by decide) rfl
        exact W.vret hx hb hr (fun t ht hW => ⟨⟨(), rfl, trivial, ⟨ov, tf, (some q_115), cf, cl, zn, xl, tag, L, kd, pi, bd, af, bo, 1, go, gq, ⟨⟨hR, hPB, hZ, hT, by rw [ht]; exact hgr, by decide, hLK, hQ⟩, ⟨hG, hJ⟩, (by rw [← hRES, hE]), (by rw [← hRES, hE]), (by rw [← hRES, hE]), (by rw [← hRES, hE])⟩, by rw [ht]; exact hP9, va_K.moved hW.alike hK, hD9⟩⟩, hS.F ht⟩) hS.2.2 dX7_launch_153
      | some z_108 =>
        rw [ho_109] at hR hZ hP hD
        have m_z_108 := (RI_hd hR0 (i := 3) (by decide) ho_109).1
        have k_z_108 := (RI_hd hR0 (i := 3) (by decide) ho_109).2.1
        have t_z_108 := (show tk_tag tag (some z_108) z_108 = 6 from va_up_self tag z_108 6)
        have o_z_108 := QQ_o hQ (q := z_108) (by rw [RI_tg hR0 (i := 3) (by decide) ho_109]; decide)
        have hQ := QQ_tks3 hQ hR0 ho_109
        have hG := GG_x3 (l := (xl 3).tail) hG
        have hP : va_P D vwCl ([(r1, .inr (1, [va_rf (va_up cf 3 (tk_fi af (some z_108)) 0), va_rf (va_up cl 3 (tk_la af (some z_108) (cl 3)) 0), .int (va_up zn 3 (tk_n (some z_108) (zn 3)) 0)])), (r2, .inr (1, [va_rf (va_up cf 3 (tk_fi af (some z_108)) 1), va_rf (va_up cl 3 (tk_la af (some z_108) (cl 3)) 1), .int (va_up zn 3 (tk_n (some z_108) (zn 3)) 1)])), (r3, .inr (1, [va_rf (va_up cf 3 (tk_fi af (some z_108)) 2), va_rf (va_up cl 3 (tk_la af (some z_108) (cl 3)) 2), .int (va_up zn 3 (tk_n (some z_108) (zn 3)) 2)])), (r0, rdC ov .null r1 r2 r3 r4 r5), (r5, tlC cI tf), (r4, .inr (1, [va_rf (va_up cf 3 (tk_fi af (some z_108)) 3), va_rf (va_up cl 3 (tk_la af (some z_108) (cl 3)) 3), .int (va_up zn 3 (tk_n (some z_108) (zn 3)) 3)]))] ++ va_pl L (pf cJ kd pi bd (tk_af af (some z_108)) bo)) H := hP
        have hD : va_D A ([(r1, .inr (1, [va_rf (va_up cf 3 (tk_fi af (some z_108)) 0), va_rf (va_up cl 3 (tk_la af (some z_108) (cl 3)) 0), .int (va_up zn 3 (tk_n (some z_108) (zn 3)) 0)])), (r2, .inr (1, [va_rf (va_up cf 3 (tk_fi af (some z_108)) 1), va_rf (va_up cl 3 (tk_la af (some z_108) (cl 3)) 1), .int (va_up zn 3 (tk_n (some z_108) (zn 3)) 1)])), (r3, .inr (1, [va_rf (va_up cf 3 (tk_fi af (some z_108)) 2), va_rf (va_up cl 3 (tk_la af (some z_108) (cl 3)) 2), .int (va_up zn 3 (tk_n (some z_108) (zn 3)) 2)])), (r0, rdC ov .null r1 r2 r3 r4 r5), (r5, tlC cI tf), (r4, .inr (1, [va_rf (va_up cf 3 (tk_fi af (some z_108)) 3), va_rf (va_up cl 3 (tk_la af (some z_108) (cl 3)) 3), .int (va_up zn 3 (tk_n (some z_108) (zn 3)) 3)]))] ++ va_pl L (pf cJ kd pi bd (tk_af af (some z_108)) bo)) := hD
        generalize g_129 : va_up cf 3 (tk_fi af (some z_108)) = cf at hP hD hR
        generalize g_130 : va_up cl 3 (tk_la af (some z_108) (cl 3)) = cl at hP hD hR
        generalize g_131 : va_up zn 3 (tk_n (some z_108) (zn 3)) = zn at hP hD hZ
        generalize g_132 : va_up xl 3 (xl 3).tail = xl at hR hZ hQ hG
        generalize g_133 : tk_tag tag (some z_108) = tag at hR hQ t_z_108
        generalize (tk_af af (some z_108)) = af at hP hD hR
        refine lv_astore (lv' := [(6, .ref z_108), (5, .int r_101), (0, .ref r0), (1, .int n1), (2, .int n2), (3, .int n3), (4, .int n4)]) hx hb dX7_launch_82 hl (by decide) rfl (fun ls hl => ?_)
        refine lv_aload hx hb dX7_launch_84 (lv_at hl 0 rfl) ?_
        refine lv_ifnonnull (tgt := 98) hx hb dX7_launch_86 (by decide) ?_
        refine lv_aload hx hb dX7_launch_98 (lv_at hl 0 rfl) ?_
        refine lv_iload_n hx hb dX7_launch_100 rfl (lv_at hl 3 rfl) ?_
        obtain ⟨k_134, hk_134⟩ := va_pl_get (X := [(r1, chC cf cl zn 0), (r2, chC cf cl zn 1), (r3, chC cf cl zn 2), (r0, rdC ov .null r1 r2 r3 r4 r5), (r5, tlC cI tf), (r4, chC cf cl zn 3)]) (f := pf cJ kd pi bd af bo) m_z_108
        refine va_putN (D := D) (ci := 5) (v := .int n1) (ty := .int) (C := RX5) (T := TX5) (N := 7) hx hb ha inlX5 tyX5 tyX5_ok nmX5 hown hK hP hD hS k_134 (hk_134.trans (congrArg (fun z => some (z_108, z)) (pf_p k_z_108))) rfl 1 (by decide) (va_Nw.use rfl (hN.f RX7 85 "CongestionBench$Parcel" "flow" "I" "CongestionBench" (by decide +kernel))) (fun _ h9 => h9) rfl (by decide +kernel) rfl rfl (Nat.le_of_ble_eq_true rfl) dX7_launch_101 (fun H locs hP1 hD1 hS => ?_)
        have hP : va_P D vwCl ([(r1, chC cf cl zn 0), (r2, chC cf cl zn 1), (r3, chC cf cl zn 2), (r0, rdC ov .null r1 r2 r3 r4 r5), (r5, tlC cI tf), (r4, chC cf cl zn 3)] ++ va_pl L (pf cJ kd (upp pi 1 z_108 n1) bd af bo)) H := by rw [← pf_u1 k_z_108, ← va_pl_set hD m_z_108 hk_134]; exact hP1
        have hD : va_D A ([(r1, chC cf cl zn 0), (r2, chC cf cl zn 1), (r3, chC cf cl zn 2), (r0, rdC ov .null r1 r2 r3 r4 r5), (r5, tlC cI tf), (r4, chC cf cl zn 3)] ++ va_pl L (pf cJ kd (upp pi 1 z_108 n1) bd af bo)) := by rw [← pf_u1 k_z_108, ← va_pl_set hD m_z_108 hk_134]; exact hD1
        have hPB := PB_due (k := 1) (a := z_108) (x := n1) hPB (by decide)
        have hQ := QQ_pi (k := 1) (q := z_108) (x := n1) hQ hR t_z_108
        have hG := GG_pi (k := 1) (z := z_108) (x := n1) hG hR t_z_108
        generalize g_135 : upp pi 1 z_108 n1 = pi at hP hD hPB hQ hG
        have p1_z_108 : pi 1 z_108 = n1 := by rw [← g_135]; exact upp_eq
        refine lv_aload hx hb dX7_launch_104 (lv_at hl 0 rfl) ?_
        refine lv_iload_n hx hb dX7_launch_106 rfl (lv_at hl 4 rfl) ?_
        obtain ⟨k_136, hk_136⟩ := va_pl_get (X := [(r1, chC cf cl zn 0), (r2, chC cf cl zn 1), (r3, chC cf cl zn 2), (r0, rdC ov .null r1 r2 r3 r4 r5), (r5, tlC cI tf), (r4, chC cf cl zn 3)]) (f := pf cJ kd pi bd af bo) m_z_108
        refine va_putN (D := D) (ci := 5) (v := .int n2) (ty := .int) (C := RX5) (T := TX5) (N := 7) hx hb ha inlX5 tyX5 tyX5_ok nmX5 hown hK hP hD hS k_136 (hk_136.trans (congrArg (fun z => some (z_108, z)) (pf_p k_z_108))) rfl 2 (by decide) (va_Nw.use rfl (hN.f RX7 88 "CongestionBench$Parcel" "number" "I" "CongestionBench" (by decide +kernel))) (fun _ h9 => h9) rfl (by decide +kernel) rfl rfl (Nat.le_of_ble_eq_true rfl) dX7_launch_107 (fun H locs hP1 hD1 hS => ?_)
        have hP : va_P D vwCl ([(r1, chC cf cl zn 0), (r2, chC cf cl zn 1), (r3, chC cf cl zn 2), (r0, rdC ov .null r1 r2 r3 r4 r5), (r5, tlC cI tf), (r4, chC cf cl zn 3)] ++ va_pl L (pf cJ kd (upp pi 2 z_108 n2) bd af bo)) H := by rw [← pf_u2 k_z_108, ← va_pl_set hD m_z_108 hk_136]; exact hP1
        have hD : va_D A ([(r1, chC cf cl zn 0), (r2, chC cf cl zn 1), (r3, chC cf cl zn 2), (r0, rdC ov .null r1 r2 r3 r4 r5), (r5, tlC cI tf), (r4, chC cf cl zn 3)] ++ va_pl L (pf cJ kd (upp pi 2 z_108 n2) bd af bo)) := by rw [← pf_u2 k_z_108, ← va_pl_set hD m_z_108 hk_136]; exact hD1
        have hPB := PB_due (k := 2) (a := z_108) (x := n2) hPB (by decide)
        have hQ := QQ_pi (k := 2) (q := z_108) (x := n2) hQ hR t_z_108
        have hG := GG_pi (k := 2) (z := z_108) (x := n2) hG hR t_z_108
        generalize g_137 : upp pi 2 z_108 n2 = pi at hP hD hPB hQ hG
        have p1_z_108 : pi 1 z_108 = n1 := by rw [← g_137]; exact (upp_ne (by decide)).trans p1_z_108
        have p2_z_108 : pi 2 z_108 = n2 := by rw [← g_137]; exact upp_eq
        refine lv_aload hx hb dX7_launch_110 (lv_at hl 0 rfl) ?_
        refine lv_iload_n hx hb dX7_launch_112 rfl (lv_at hl 5 rfl) ?_
        obtain ⟨k_138, hk_138⟩ := va_pl_get (X := [(r1, chC cf cl zn 0), (r2, chC cf cl zn 1), (r3, chC cf cl zn 2), (r0, rdC ov .null r1 r2 r3 r4 r5), (r5, tlC cI tf), (r4, chC cf cl zn 3)]) (f := pf cJ kd pi bd af bo) m_z_108
        refine va_putN (D := D) (ci := 5) (v := .int n3) (ty := .boolean) (C := RX5) (T := TX5) (N := 7) hx hb ha inlX5 tyX5 tyX5_ok nmX5 hown hK hP hD hS k_138 (hk_138.trans (congrArg (fun z => some (z_108, z)) (pf_p k_z_108))) rfl 3 (by decide) (va_Nw.use rfl (hN.f RX7 91 "CongestionBench$Parcel" "special" "Z" "CongestionBench" (by decide +kernel))) (fun _ h9 => h9) rfl (by decide +kernel) (by rcases hz with h | h <;> rw [h] <;> rfl) (by rcases hz with h | h <;> rw [h] <;> rfl) (Nat.le_of_ble_eq_true rfl) dX7_launch_113 (fun H locs hP1 hD1 hS => ?_)
        have hP : va_P D vwCl ([(r1, chC cf cl zn 0), (r2, chC cf cl zn 1), (r3, chC cf cl zn 2), (r0, rdC ov .null r1 r2 r3 r4 r5), (r5, tlC cI tf), (r4, chC cf cl zn 3)] ++ va_pl L (pf cJ kd (upp pi 3 z_108 n3) bd af bo)) H := by rw [← pf_u3 k_z_108, ← va_pl_set hD m_z_108 hk_138]; exact hP1
        have hD : va_D A ([(r1, chC cf cl zn 0), (r2, chC cf cl zn 1), (r3, chC cf cl zn 2), (r0, rdC ov .null r1 r2 r3 r4 r5), (r5, tlC cI tf), (r4, chC cf cl zn 3)] ++ va_pl L (pf cJ kd (upp pi 3 z_108 n3) bd af bo)) := by rw [← pf_u3 k_z_108, ← va_pl_set hD m_z_108 hk_138]; exact hD1
        have hPB := PB_spec (a := z_108) (x := n3) hPB hz
        have hQ := QQ_pi (k := 3) (q := z_108) (x := n3) hQ hR t_z_108
        have hG := GG_pi (k := 3) (z := z_108) (x := n3) hG hR t_z_108
        generalize g_139 : upp pi 3 z_108 n3 = pi at hP hD hPB hQ hG
        have p1_z_108 : pi 1 z_108 = n1 := by rw [← g_139]; exact (upp_ne (by decide)).trans p1_z_108
        have p2_z_108 : pi 2 z_108 = n2 := by rw [← g_139]; exact (upp_ne (by decide)).trans p2_z_108
        have p3_z_108 : pi 3 z_108 = n3 := by rw [← g_139]; exact upp_eq
        refine lv_aload_n hx hb dX7_launch_116 rfl (lv_at hl 2 rfl) ?_
        refine va_get (D := D) (ci := 7) (v := .null) (C := RX7) (T := TX7) (N := 15) hx hb ha inlX7 hown hK hP 3 rfl rfl 4 (by decide) (ha _ kf_X7_54) (fun _ h9 => h9) rfl dX7_launch_117 ?_
        refine lv_ifnonnullN hx hb dX7_launch_120 ?_
        refine lv_aload hx hb dX7_launch_123 (lv_at hl 0 rfl) ?_
        refine lv_iload hx hb dX7_launch_125 (lv_at hl 6 rfl) ?_
        refine lv_aload_n hx hb dX7_launch_127 rfl (lv_at hl 2 rfl) ?_
        refine va_get (D := D) (ci := 7) (v := .int (ov 0)) (C := RX7) (T := TX7) (N := 15) hx hb ha inlX7 hown hK hP 3 rfl rfl 0 (by decide) (ha _ kf_X7_9) (fun _ h9 => h9) rfl dX7_launch_128 ?_
        refine lv_topi (fun x_140 ex_140 => ?_)
        have hE := bd_at ex_140 hE
        refine lv_iadd hx hb dX7_launch_131 ?_
        refine lv_topi (fun x_141 ex_141 => ?_)
        have hE := bd_at ex_141 hE
        obtain ⟨k_142, hk_142⟩ := va_pl_get (X := [(r1, chC cf cl zn 0), (r2, chC cf cl zn 1), (r3, chC cf cl zn 2), (r0, rdC ov .null r1 r2 r3 r4 r5), (r5, tlC cI tf), (r4, chC cf cl zn 3)]) (f := pf cJ kd pi bd af bo) m_z_108
        refine va_putN (D := D) (ci := 5) (v := .int x_141) (ty := .int) (C := RX5) (T := TX5) (N := 7) hx hb ha inlX5 tyX5 tyX5_ok nmX5 hown hK hP hD hS k_142 (hk_142.trans (congrArg (fun z => some (z_108, z)) (pf_p k_z_108))) rfl 0 (by decide) (va_Nw.use rfl (hN.f RX7 58 "CongestionBench$Parcel" "due" "I" "CongestionBench" (by decide +kernel))) (fun _ h9 => h9) rfl (by decide +kernel) rfl rfl (Nat.le_of_ble_eq_true rfl) dX7_launch_132 (fun H locs hP1 hD1 hS => ?_)
        have hP : va_P D vwCl ([(r1, chC cf cl zn 0), (r2, chC cf cl zn 1), (r3, chC cf cl zn 2), (r0, rdC ov .null r1 r2 r3 r4 r5), (r5, tlC cI tf), (r4, chC cf cl zn 3)] ++ va_pl L (pf cJ kd (upp pi 0 z_108 x_141) bd af bo)) H := by rw [← pf_u0 k_z_108, ← va_pl_set hD m_z_108 hk_142]; exact hP1
        have hD : va_D A ([(r1, chC cf cl zn 0), (r2, chC cf cl zn 1), (r3, chC cf cl zn 2), (r0, rdC ov .null r1 r2 r3 r4 r5), (r5, tlC cI tf), (r4, chC cf cl zn 3)] ++ va_pl L (pf cJ kd (upp pi 0 z_108 x_141) bd af bo)) := by rw [← pf_u0 k_z_108, ← va_pl_set hD m_z_108 hk_142]; exact hD1
        have hPB := PB_due (k := 0) (a := z_108) (x := x_141) hPB (by decide)
        have hQ := QQ_pi (k := 0) (q := z_108) (x := x_141) hQ hR t_z_108
        have hG := GG_pi (k := 0) (z := z_108) (x := x_141) hG hR t_z_108
        generalize g_143 : upp pi 0 z_108 x_141 = pi at hP hD hPB hQ hG
        have p1_z_108 : pi 1 z_108 = n1 := by rw [← g_143]; exact (upp_ne (by decide)).trans p1_z_108
        have p2_z_108 : pi 2 z_108 = n2 := by rw [← g_143]; exact (upp_ne (by decide)).trans p2_z_108
        have p3_z_108 : pi 3 z_108 = n3 := by rw [← g_143]; exact (upp_ne (by decide)).trans p3_z_108
        have p0_z_108 : pi 0 z_108 = x_141 := by rw [← g_143]; exact upp_eq
        have p_z_108 := p0_z_108
        refine lv_aload_n hx hb dX7_launch_135 rfl (lv_at hl 2 rfl) ?_
        refine lv_aload hx hb dX7_launch_136 (lv_at hl 0 rfl) ?_
        refine va_put (D := D) (ci := 7) (v := .ref z_108) (ty := .object "CongestionBench$Parcel") (C := RX7) (T := TX7) (N := 15) hx hb ha inlX7 tyX7 tyX7_ok nmX7 hown hK hP hD hS 3 rfl rfl 4 (by decide) (ha _ kf_X7_54) (fun _ h9 => h9) rfl (by decide +kernel) rfl rfl (Nat.le_of_ble_eq_true rfl) dX7_launch_138 (fun H locs hP hD hS => ?_)
        have hP : va_P D vwCl ([(r1, chC cf cl zn 0), (r2, chC cf cl zn 1), (r3, chC cf cl zn 2), (r0, rdC ov (.ref z_108) r1 r2 r3 r4 r5), (r5, tlC cI tf), (r4, chC cf cl zn 3)] ++ va_pl L (pf cJ kd pi bd af bo)) H := hP
        have hD : va_D A ([(r1, chC cf cl zn 0), (r2, chC cf cl zn 1), (r3, chC cf cl zn 2), (r0, rdC ov (.ref z_108) r1 r2 r3 r4 r5), (r5, tlC cI tf), (r4, chC cf cl zn 3)] ++ va_pl L (pf cJ kd pi bd af bo)) := hD
        have hR := RI_on hR m_z_108 k_z_108 t_z_108
        have hQ := QQ_on hQ o_z_108
        generalize va_up tag z_108 5 = tag at hR hQ
        have hG := GG_on (z := z_108) hG
        rw [show cs pi z_108 = (x_141, n1, n2, n3) by unfold cs; rw [p0_z_108, p1_z_108, p2_z_108, p3_z_108]] at hG
        generalize hgh_144 : (some (x_141, n1, n2, n3) : Option S4) = go at hG
        have hE := bs_at hgh_144 hE
        refine lv_goto (tgt := 153) hx hb dX7_launch_141 (by decide) ?_
        refine W.know2 (fun hk1 hk2 => ?_)
        have hgr : gr s.heap _ 0 := ⟨hk1, hk2⟩
        refine W.widen (k := 2) (n := 11) (Nat.le_of_ble_eq_true rfl) (Nat.le_of_ble_eq_true rfl) ?_
        have hP9 : va_P D vwCl ([(r0, rdC ov (va_rf (some z_108)) r1 r2 r3 r4 r5), (r1, chC cf cl zn 0), (r2, chC cf cl zn 1), (r3, chC cf cl zn 2), (r4, chC cf cl zn 3), (r5, tlC cI tf)] ++ va_pl L (pf cJ kd pi bd af bo)) _ := hP.part [3, 0, 1, 2, 5, 4] rfl
        have hD9 : va_D A ([(r0, rdC ov (va_rf (some z_108)) r1 r2 r3 r4 r5), (r1, chC cf cl zn 0), (r2, chC cf cl zn 1), (r3, chC cf cl zn 2), (r4, chC cf cl zn 3), (r5, tlC cI tf)] ++ va_pl L (pf cJ kd pi bd af bo)) := hD.part [3, 0, 1, 2, 5, 4] (by decide) rfl
        exact W.vret hx hb hr (fun t ht hW => ⟨⟨(), rfl, trivial, ⟨ov, tf, (some z_108), cf, cl, zn, xl, tag, L, kd, pi, bd, af, bo, 0, go, gq, ⟨⟨hR, hPB, hZ, hT, by rw [ht]; exact hgr, by decide, hLK, hQ⟩, ⟨hG, hJ⟩, (by rw [← hRES, hE]), (by rw [← hRES, hE]), (by rw [← hRES, hE]), (by rw [← hRES, hE])⟩, by rw [ht]; exact hP9, va_K.moved hW.alike hK, hD9⟩⟩, hS.F ht⟩) hS.2.2 dX7_launch_153
    | some z_106 =>
      have hP : va_P D vwCl ([(r1, chC cf cl zn 0), (r2, chC cf cl zn 1), (r3, chC cf cl zn 2), (r4, chC cf cl zn 3), (r0, rdC ov (.ref z_106) r1 r2 r3 r4 r5), (r5, tlC cI tf)] ++ va_pl L (pf cJ kd pi bd af bo)) _ := hP
      have hD : va_D A ([(r1, chC cf cl zn 0), (r2, chC cf cl zn 1), (r3, chC cf cl zn 2), (r4, chC cf cl zn 3), (r0, rdC ov (.ref z_106) r1 r2 r3 r4 r5), (r5, tlC cI tf)] ++ va_pl L (pf cJ kd pi bd af bo)) := hD
      have hE := om_some (show go = some (cs pi z_106) from hG.1.symm) hE
      have m_z_106 := (hR.2 z_106 rfl).1
      have k_z_106 := (hR.2 z_106 rfl).2.1
      refine lv_ifnull hx hb dX7_launch_47 ?_
      refine lv_aload_n hx hb dX7_launch_50 rfl (lv_at hl 1 rfl) ?_
      refine va_get (D := D) (ci := 7) (v := .ref r1) (C := RX7) (T := TX7) (N := 15) hx hb ha inlX7 hown hK hP 4 rfl rfl 5 (by decide) (ha _ kf_X7_27) (fun _ h9 => h9) rfl dX7_launch_51 ?_
      refine va_getN (D := D) (ci := 1) (v := .int (zn 0)) (C := RX1) (T := TX1) (N := 3) hx hb ha inlX1 hown hK hP 0 rfl rfl 2 (by decide) (va_Nw.use rfl (hN.f RX7 78 "CongestionBench$Chain" "size" "I" "CongestionBench" (by decide +kernel))) (fun _ h9 => h9) rfl dX7_launch_54 ?_
      refine lv_aload_n hx hb dX7_launch_57 rfl (lv_at hl 1 rfl) ?_
      refine va_get (D := D) (ci := 7) (v := .int (ov 1)) (C := RX7) (T := TX7) (N := 15) hx hb ha inlX7 hown hK hP 4 rfl rfl 1 (by decide) (ha _ kf_X7_15) (fun _ h9 => h9) rfl dX7_launch_58 ?_
      refine lv_topi (fun x_145 ex_145 => ?_)
      have hE := bd_at ex_145 hE
      have hzq : zn 0 = nI gq.length := by rw [hZ 0 (by decide), ← hG.2.1, List.length_map]
      refine lv_icmp_lt (tgt := 75) hx hb dX7_launch_61 (by decide) (fun c_146 => ?_) (fun c_146 => ?_)
      · have hE := hE.trans (if_pos (by rw [← hzq]; exact c_146))
        have hlt := q_lt hZ c_146 ex_145 hLK hq0
        refine lv_aload_n hx hb dX7_launch_75 rfl (lv_at hl 1 rfl) ?_
        refine va_get (D := D) (ci := 7) (v := .ref r4) (C := RX7) (T := TX7) (N := 15) hx hb ha inlX7 hown hK hP 4 rfl rfl 8 (by decide) (ha _ kf_X7_37) (fun _ h9 => h9) rfl dX7_launch_76 ?_
        have hR0 := hR
        have hPc := hP.part (X := [(r1, chC cf cl zn 0), (r2, chC cf cl zn 1), (r3, chC cf cl zn 2), (r4, chC cf cl zn 3), (r0, rdC ov (.ref z_106) r1 r2 r3 r4 r5), (r5, tlC cI tf)]) (cx := [(r4, chC cf cl zn 3)]) (pl := va_pl L (pf cJ kd pi bd af bo)) [3] rfl
        have hDc := hD.part (X := [(r1, chC cf cl zn 0), (r2, chC cf cl zn 1), (r3, chC cf cl zn 2), (r4, chC cf cl zn 3), (r0, rdC ov (.ref z_106) r1 r2 r3 r4 r5), (r5, tlC cI tf)]) (cx := [(r4, chC cf cl zn 3)]) (pl := va_pl L (pf cJ kd pi bd af bo)) [3] (by decide) rfl
        have hFc := va_freeP (X := [(r1, chC cf cl zn 0), (r2, chC cf cl zn 1), (r3, chC cf cl zn 2), (r4, chC cf cl zn 3), (r0, rdC ov (.ref z_106) r1 r2 r3 r4 r5), (r5, tlC cI tf)]) (cx := [(r4, chC cf cl zn 3)]) (pl := va_pl L (pf cJ kd pi bd af bo)) hD hS hA [3] rfl
        refine va_callq (va_runV (As := []) (rest := []) ⟨hx, hb, hml, hown, ha⟩ (s_takeFirst l D cI cJ cZ cO _ r4 L kd pi bd af bo (cf 3) (cl 3) (zn 3) (RI_fi hR (by decide)) (RI_cl hR (by decide))) (cwV 0 ha (gaV kl_X7_67 km_X1_takeFirst ks_X1_takeFirst kz_X1 kd_X1_takeFirst) rfl rfl rfl (by decide +kernel) ⟨Nat.le_of_ble_eq_true rfl, Nat.le_of_ble_eq_true rfl⟩) ⟨pw_blind, va_recv hK hPc (ci := 1) (q0 := 0) rfl rfl, fun U hU hW => ⟨rfl, pw_start hU hW hPc hK hDc hN⟩⟩ rfl rfl hl.1 rfl (lv_room (Nat.le_of_ble_eq_true rfl)) dX7_launch_79 ⟨Nat.le_of_ble_eq_true rfl, Nat.le_of_ble_eq_true rfl⟩) hS (fun q _ h => hFc q h) hFc (fun r_147 u t H1 locs ht hvm hw hB hz1 hk1 hS => ?_)
        obtain ⟨hP1, hK1, hD1⟩ := hB
        rw [ht] at hP1
        obtain ⟨hP, hD⟩ := va_joinP (wr := [(r1, chC cf cl zn 0), (r2, chC cf cl zn 1), (r3, chC cf cl zn 2), (r0, rdC ov (.ref z_106) r1 r2 r3 r4 r5), (r5, tlC cI tf)]) (rx := [(r4, .inr (1, [va_rf (tk_fi af (cf 3)), va_rf (tk_la af (cf 3) (cl 3)), .int (tk_n (cf 3) (zn 3))]))]) (pl1 := va_pl L (pf cJ kd pi bd (tk_af af (cf 3)) bo)) hP hD [3] [0, 1, 2, 4, 5] rfl rfl (by decide) (by decide) hk1 hFc hP1 hD1
        generalize H1 = H at hP hS ⊢
        have hP : va_P D vwCl ([(r1, chC cf cl zn 0), (r2, chC cf cl zn 1), (r3, chC cf cl zn 2), (r0, rdC ov (.ref z_106) r1 r2 r3 r4 r5), (r5, tlC cI tf), (r4, .inr (1, [va_rf (tk_fi af (cf 3)), va_rf (tk_la af (cf 3) (cl 3)), .int (tk_n (cf 3) (zn 3))]))] ++ va_pl L (pf cJ kd pi bd (tk_af af (cf 3)) bo)) H := hP
        have hD : va_D A ([(r1, chC cf cl zn 0), (r2, chC cf cl zn 1), (r3, chC cf cl zn 2), (r0, rdC ov (.ref z_106) r1 r2 r3 r4 r5), (r5, tlC cI tf), (r4, .inr (1, [va_rf (tk_fi af (cf 3)), va_rf (tk_la af (cf 3) (cl 3)), .int (tk_n (cf 3) (zn 3))]))] ++ va_pl L (pf cJ kd pi bd (tk_af af (cf 3)) bo)) := hD
        refine W.widen (k := 0) (n := 0) (Nat.le_of_ble_eq_true rfl) (Nat.le_of_ble_eq_true rfl) ?_
        obtain rfl : (cf 3) = r_147 := (hw).symm
        have hZ := ZN_tk hZ hR0 (j := 3) (by decide)
        have hR := RI_tk hR0 (i := 3) (by decide)
        cases ho_149 : cf 3 with
        | none =>
          rw [ho_149] at hR hZ hP hD
          have hQ := QQ_tkn3 hQ hR0 ho_149
          have hn3 : va_up cf 3 (tk_fi af none) 3 = none := va_up_self _ _ _
          have hG := GG_x3 (l := (xl 3).tail) hG
          have hlt : (va_up xl 3 (xl 3).tail 0).length < 100 := by rw [va_up_ne _ _ (by decide)]; exact hlt
          have hP : va_P D vwCl ([(r1, .inr (1, [va_rf (va_up cf 3 (tk_fi af none) 0), va_rf (va_up cl 3 (tk_la af none (cl 3)) 0), .int (va_up zn 3 (tk_n none (zn 3)) 0)])), (r2, .inr (1, [va_rf (va_up cf 3 (tk_fi af none) 1), va_rf (va_up cl 3 (tk_la af none (cl 3)) 1), .int (va_up zn 3 (tk_n none (zn 3)) 1)])), (r3, .inr (1, [va_rf (va_up cf 3 (tk_fi af none) 2), va_rf (va_up cl 3 (tk_la af none (cl 3)) 2), .int (va_up zn 3 (tk_n none (zn 3)) 2)])), (r0, rdC ov (.ref z_106) r1 r2 r3 r4 r5), (r5, tlC cI tf), (r4, .inr (1, [va_rf (va_up cf 3 (tk_fi af none) 3), va_rf (va_up cl 3 (tk_la af none (cl 3)) 3), .int (va_up zn 3 (tk_n none (zn 3)) 3)]))] ++ va_pl L (pf cJ kd pi bd (tk_af af none) bo)) H := hP
          have hD : va_D A ([(r1, .inr (1, [va_rf (va_up cf 3 (tk_fi af none) 0), va_rf (va_up cl 3 (tk_la af none (cl 3)) 0), .int (va_up zn 3 (tk_n none (zn 3)) 0)])), (r2, .inr (1, [va_rf (va_up cf 3 (tk_fi af none) 1), va_rf (va_up cl 3 (tk_la af none (cl 3)) 1), .int (va_up zn 3 (tk_n none (zn 3)) 1)])), (r3, .inr (1, [va_rf (va_up cf 3 (tk_fi af none) 2), va_rf (va_up cl 3 (tk_la af none (cl 3)) 2), .int (va_up zn 3 (tk_n none (zn 3)) 2)])), (r0, rdC ov (.ref z_106) r1 r2 r3 r4 r5), (r5, tlC cI tf), (r4, .inr (1, [va_rf (va_up cf 3 (tk_fi af none) 3), va_rf (va_up cl 3 (tk_la af none (cl 3)) 3), .int (va_up zn 3 (tk_n none (zn 3)) 3)]))] ++ va_pl L (pf cJ kd pi bd (tk_af af none) bo)) := hD
          generalize g_150 : va_up cf 3 (tk_fi af none) = cf at hP hD hR hn3
          generalize g_151 : va_up cl 3 (tk_la af none (cl 3)) = cl at hP hD hR
          generalize g_152 : va_up zn 3 (tk_n none (zn 3)) = zn at hP hD hZ
          generalize g_153 : va_up xl 3 (xl 3).tail = xl at hR hZ hQ hG hlt
          generalize g_154 : tk_tag tag none = tag at hR hQ
          generalize (tk_af af none) = af at hP hD hR
          refine lv_astoreN (lv' := [(6, .null), (5, .int r_101), (0, .ref r0), (1, .int n1), (2, .int n2), (3, .int n3), (4, .int n4)]) hx hb dX7_launch_82 hl (by decide) rfl (fun ls hl => ?_)
          refine lv_aloadN hx hb dX7_launch_84 (lv_at hl 0 rfl) ?_
          refine lv_ifnonnullN hx hb dX7_launch_86 ?_
          refine va_new (ci := 5) (fs := [.int 0, .int 0, .int 0, .int 0, .int 0, .null, .null]) (C := RX5) (T := TX5) (N := 7) hx hb ha inlX5 tyX5 tyX5_ok hown (ha _ kc_X7_59) (ha _ ki_X5) (ha _ kz_X5) hK hP hD hS hA rfl (by decide) (Nat.le_of_ble_eq_true rfl) (Nat.le_of_ble_eq_true rfl) dX7_launch_89 (fun q_155 H hP hD hS => ?_)
          have hP := va_P.swap (a := [(r1, chC cf cl zn 0), (r2, chC cf cl zn 1), (r3, chC cf cl zn 2), (r0, rdC ov (.ref z_106) r1 r2 r3 r4 r5), (r5, tlC cI tf), (r4, chC cf cl zn 3)]) (b := va_pl L (pf cJ kd pi bd af bo)) (c := [(q_155, .inr (5, [.int 0, .int 0, .int 0, .int 0, .int 0, .null, .null]))]) hP
          have n_q_155 : q_155 ∉ L := va_pl_fresh2 (X := [(r1, chC cf cl zn 0), (r2, chC cf cl zn 1), (r3, chC cf cl zn 2), (r0, rdC ov (.ref z_106) r1 r2 r3 r4 r5), (r5, tlC cI tf), (r4, chC cf cl zn 3)]) (f := pf cJ kd pi bd af bo) (e := .inr (5, [.int 0, .int 0, .int 0, .int 0, .int 0, .null, .null])) hD
          have hD := va_D.swap (a := [(r1, chC cf cl zn 0), (r2, chC cf cl zn 1), (r3, chC cf cl zn 2), (r0, rdC ov (.ref z_106) r1 r2 r3 r4 r5), (r5, tlC cI tf), (r4, chC cf cl zn 3)]) (b := va_pl L (pf cJ kd pi bd af bo)) (c := [(q_155, .inr (5, [.int 0, .int 0, .int 0, .int 0, .int 0, .null, .null]))]) hD
          have hP : va_P D vwCl ([(r1, chC cf cl zn 0), (r2, chC cf cl zn 1), (r3, chC cf cl zn 2), (r0, rdC ov (.ref z_106) r1 r2 r3 r4 r5), (r5, tlC cI tf), (r4, chC cf cl zn 3), (q_155, .inr (5, [.int 0, .int 0, .int 0, .int 0, .int 0, .null, .null]))] ++ va_pl L (pf cJ kd pi bd af bo)) H := hP
          have hD : va_D A ([(r1, chC cf cl zn 0), (r2, chC cf cl zn 1), (r3, chC cf cl zn 2), (r0, rdC ov (.ref z_106) r1 r2 r3 r4 r5), (r5, tlC cI tf), (r4, chC cf cl zn 3), (q_155, .inr (5, [.int 0, .int 0, .int 0, .int 0, .int 0, .null, .null]))] ++ va_pl L (pf cJ kd pi bd af bo)) := hD
          refine W.widen (k := 1) (n := 7) (Nat.le_of_ble_eq_true rfl) (Nat.le_of_ble_eq_true rfl) ?_
          refine lv_dup hx hb dX7_launch_92 rfl ?_
          have hPc := hP.sub (ws' := [(q_155, .inr (5, [.int 0, .int 0, .int 0, .int 0, .int 0, .null, .null]))]) [6] rfl
          have hDc := hD.sub (ws' := [(q_155, .inr (5, [.int 0, .int 0, .int 0, .int 0, .int 0, .null, .null]))]) [6] (by decide) rfl
          have hFc := va_free (wc := [(q_155, .inr (5, [.int 0, .int 0, .int 0, .int 0, .int 0, .null, .null]))]) hD hS hA [6] rfl
          refine va_callv (va_runIN (As := []) (rest := [.ref q_155]) ⟨hx, hb, hml, hown, ha⟩ (s_Parcel l D cI cJ cZ cO _ q_155) ⟨va_cnB 0 ha (gaI kd_X5_init) rfl rfl rfl (hN.m RX7 84 yX5_init "CongestionBench" (by decide +kernel)) (ha _ kz_X5) (by decide +kernel) ⟨Nat.le_of_ble_eq_true rfl, Nat.le_of_ble_eq_true rfl⟩, rfl, ha _ km_X5_init⟩ ⟨pw_blind, fun U hU hW => ⟨rfl, pw_start hU hW hPc hK hDc hN⟩⟩ rfl rfl hl.1 rfl (lv_room (Nat.le_of_ble_eq_true rfl)) dX7_launch_93 ⟨Nat.le_of_ble_eq_true rfl, Nat.le_of_ble_eq_true rfl⟩) hS (fun q _ h => hFc q h) hFc (fun u t H1 locs ht hvm hw hB hz1 hk1 hS => ?_)
          obtain ⟨q_157, hP1, hK1, hD1⟩ := hB
          rw [ht] at hP1
          obtain ⟨hP, hD⟩ := va_joinQ (wr := [(r1, chC cf cl zn 0), (r2, chC cf cl zn 1), (r3, chC cf cl zn 2), (r0, rdC ov (.ref z_106) r1 r2 r3 r4 r5), (r5, tlC cI tf), (r4, chC cf cl zn 3)]) (w1 := [(q_155, .inr (5, [.int 0, .int 0, .int 0, .int 0, .int 0, .ref q_157, .null])), (q_157, .inl (cJ, 4, .inr (.inl (fun _ => 0))))]) hP hD [6] [0, 1, 2, 3, 4, 5] rfl rfl (by decide) (by decide) hk1 hFc hP1 hD1
          generalize H1 = H at hP hS ⊢
          have hP : va_P D vwCl ([(r1, chC cf cl zn 0), (r2, chC cf cl zn 1), (r3, chC cf cl zn 2), (r0, rdC ov (.ref z_106) r1 r2 r3 r4 r5), (r5, tlC cI tf), (r4, chC cf cl zn 3), (q_155, .inr (5, [.int 0, .int 0, .int 0, .int 0, .int 0, .ref q_157, .null])), (q_157, .inl (cJ, 4, .inr (.inl (fun _ => 0))))] ++ va_pl L (pf cJ kd pi bd af bo)) H := hP
          have hD : va_D A ([(r1, chC cf cl zn 0), (r2, chC cf cl zn 1), (r3, chC cf cl zn 2), (r0, rdC ov (.ref z_106) r1 r2 r3 r4 r5), (r5, tlC cI tf), (r4, chC cf cl zn 3), (q_155, .inr (5, [.int 0, .int 0, .int 0, .int 0, .int 0, .ref q_157, .null])), (q_157, .inl (cJ, 4, .inr (.inl (fun _ => 0))))] ++ va_pl L (pf cJ kd pi bd af bo)) := hD
          refine W.widen (k := 2) (n := 11) (Nat.le_of_ble_eq_true rfl) (Nat.le_of_ble_eq_true rfl) ?_
          have hP : va_P D vwCl (([(r1, chC cf cl zn 0), (r2, chC cf cl zn 1), (r3, chC cf cl zn 2), (r0, rdC ov (.ref z_106) r1 r2 r3 r4 r5), (r5, tlC cI tf), (r4, chC cf cl zn 3)] ++ [(q_155, .inr (5, [.int 0, .int 0, .int 0, .int 0, .int 0, .ref q_157, va_rf none])), (q_157, .inl (cJ, 4, .inr (.inl (fun _ => 0))))]) ++ va_pl L (pf cJ kd pi bd af bo)) H := hP.part (X := [(r1, chC cf cl zn 0), (r2, chC cf cl zn 1), (r3, chC cf cl zn 2), (r0, rdC ov (.ref z_106) r1 r2 r3 r4 r5), (r5, tlC cI tf), (r4, chC cf cl zn 3), (q_155, .inr (5, [.int 0, .int 0, .int 0, .int 0, .int 0, .ref q_157, va_rf none])), (q_157, .inl (cJ, 4, .inr (.inl (fun _ => 0))))]) (cx := [(r1, chC cf cl zn 0), (r2, chC cf cl zn 1), (r3, chC cf cl zn 2), (r0, rdC ov (.ref z_106) r1 r2 r3 r4 r5), (r5, tlC cI tf), (r4, chC cf cl zn 3), (q_155, .inr (5, [.int 0, .int 0, .int 0, .int 0, .int 0, .ref q_157, va_rf none])), (q_157, .inl (cJ, 4, .inr (.inl (fun _ => 0))))]) (pl := va_pl L (pf cJ kd pi bd af bo)) [0, 1, 2, 3, 4, 5, 6, 7] rfl
          have hD : va_D A (([(r1, chC cf cl zn 0), (r2, chC cf cl zn 1), (r3, chC cf cl zn 2), (r0, rdC ov (.ref z_106) r1 r2 r3 r4 r5), (r5, tlC cI tf), (r4, chC cf cl zn 3)] ++ [(q_155, .inr (5, [.int 0, .int 0, .int 0, .int 0, .int 0, .ref q_157, va_rf none])), (q_157, .inl (cJ, 4, .inr (.inl (fun _ => 0))))]) ++ va_pl L (pf cJ kd pi bd af bo)) := hD.part (X := [(r1, chC cf cl zn 0), (r2, chC cf cl zn 1), (r3, chC cf cl zn 2), (r0, rdC ov (.ref z_106) r1 r2 r3 r4 r5), (r5, tlC cI tf), (r4, chC cf cl zn 3), (q_155, .inr (5, [.int 0, .int 0, .int 0, .int 0, .int 0, .ref q_157, va_rf none])), (q_157, .inl (cJ, 4, .inr (.inl (fun _ => 0))))]) (cx := [(r1, chC cf cl zn 0), (r2, chC cf cl zn 1), (r3, chC cf cl zn 2), (r0, rdC ov (.ref z_106) r1 r2 r3 r4 r5), (r5, tlC cI tf), (r4, chC cf cl zn 3), (q_155, .inr (5, [.int 0, .int 0, .int 0, .int 0, .int 0, .ref q_157, va_rf none])), (q_157, .inl (cJ, 4, .inr (.inl (fun _ => 0))))]) (pl := va_pl L (pf cJ kd pi bd af bo)) [0, 1, 2, 3, 4, 5, 6, 7] (by decide) rfl
          have hP := va_P.swap (a := [(r1, chC cf cl zn 0), (r2, chC cf cl zn 1), (r3, chC cf cl zn 2), (r0, rdC ov (.ref z_106) r1 r2 r3 r4 r5), (r5, tlC cI tf), (r4, chC cf cl zn 3)]) (b := [(q_155, .inr (5, [.int 0, .int 0, .int 0, .int 0, .int 0, .ref q_157, va_rf none])), (q_157, .inl (cJ, 4, .inr (.inl (fun _ => 0))))]) (c := va_pl L (pf cJ kd pi bd af bo)) hP
          have hD := va_D.swap (a := [(r1, chC cf cl zn 0), (r2, chC cf cl zn 1), (r3, chC cf cl zn 2), (r0, rdC ov (.ref z_106) r1 r2 r3 r4 r5), (r5, tlC cI tf), (r4, chC cf cl zn 3)]) (b := [(q_155, .inr (5, [.int 0, .int 0, .int 0, .int 0, .int 0, .ref q_157, va_rf none])), (q_157, .inl (cJ, 4, .inr (.inl (fun _ => 0))))]) (c := va_pl L (pf cJ kd pi bd af bo)) hD
          obtain ⟨n_q_155b, n_q_157b⟩ := pl_apart (X := [(r1, chC cf cl zn 0), (r2, chC cf cl zn 1), (r3, chC cf cl zn 2), (r0, rdC ov (.ref z_106) r1 r2 r3 r4 r5), (r5, tlC cI tf), (r4, chC cf cl zn 3)]) (f := pf cJ kd pi bd af bo) hD
          rw [pl_new n_q_155 n_q_157b.1 n_q_157b.2, pf_new n_q_157b.2] at hP hD
          have o_q_155 := QQ_ob hQ n_q_155
          have hQ := QQ_born hQ hR n_q_155 n_q_157b.1 hn3
          have hG := GG_born (v := fun _ => 0) hG hR hPB n_q_155 n_q_157b.1
          have hJ := JB_born hJ hPB n_q_155 n_q_157b.1 n_q_157b.2
          have hR := RI_born hR n_q_155 n_q_157b.1
          have hPB := PB_born hPB n_q_155 n_q_157b.1 n_q_157b.2
          have m_q_155 : q_155 ∈ L ++ [q_155, q_157] := by simp
          have k_q_155 : va_up (va_up kd q_155 false) q_157 true q_155 = false := by rw [va_up_ne _ _ n_q_157b.2, va_up_self]
          have t_q_155 : va_up tag q_155 6 q_155 = 6 := va_up_self _ _ _
          have hP : va_P D vwCl ([(r1, chC cf cl zn 0), (r2, chC cf cl zn 1), (r3, chC cf cl zn 2), (r0, rdC ov (.ref z_106) r1 r2 r3 r4 r5), (r5, tlC cI tf), (r4, chC cf cl zn 3)] ++ va_pl (L ++ [q_155, q_157]) (pf cJ (va_up (va_up kd q_155 false) q_157 true) (fun k => va_up (pi k) q_155 0) (va_up bd q_155 q_157) (va_up af q_155 none) (va_up bo q_157 (fun _ => 0)))) H := hP
          have hD : va_D A ([(r1, chC cf cl zn 0), (r2, chC cf cl zn 1), (r3, chC cf cl zn 2), (r0, rdC ov (.ref z_106) r1 r2 r3 r4 r5), (r5, tlC cI tf), (r4, chC cf cl zn 3)] ++ va_pl (L ++ [q_155, q_157]) (pf cJ (va_up (va_up kd q_155 false) q_157 true) (fun k => va_up (pi k) q_155 0) (va_up bd q_155 q_157) (va_up af q_155 none) (va_up bo q_157 (fun _ => 0)))) := hD
          generalize L ++ [q_155, q_157] = L at hP hD hR hPB hQ hJ m_q_155
          generalize va_up (va_up kd q_155 false) q_157 true = kd at hP hD hR hPB hQ hJ k_q_155
          generalize (fun k => va_up (pi k) q_155 0) = pi at hP hD hPB hQ hG
          generalize va_up bd q_155 q_157 = bd at hP hD hPB hG hJ
          generalize va_up af q_155 none = af at hP hD hR
          generalize va_up bo q_157 (fun _ => 0) = bo at hP hD hG
          generalize va_up tag q_155 6 = tag at hR hQ t_q_155
          refine lv_astore (lv' := [(6, .ref q_155), (5, .int r_101), (0, .ref r0), (1, .int n1), (2, .int n2), (3, .int n3), (4, .int n4)]) hx hb dX7_launch_96 hl (by decide) rfl (fun ls hl => ?_)
          refine lv_aload hx hb dX7_launch_98 (lv_at hl 0 rfl) ?_
          refine lv_iload_n hx hb dX7_launch_100 rfl (lv_at hl 3 rfl) ?_
          obtain ⟨k_158, hk_158⟩ := va_pl_get (X := [(r1, chC cf cl zn 0), (r2, chC cf cl zn 1), (r3, chC cf cl zn 2), (r0, rdC ov (.ref z_106) r1 r2 r3 r4 r5), (r5, tlC cI tf), (r4, chC cf cl zn 3)]) (f := pf cJ kd pi bd af bo) m_q_155
          refine va_putN (D := D) (ci := 5) (v := .int n1) (ty := .int) (C := RX5) (T := TX5) (N := 7) hx hb ha inlX5 tyX5 tyX5_ok nmX5 hown hK hP hD hS k_158 (hk_158.trans (congrArg (fun z => some (q_155, z)) (pf_p k_q_155))) rfl 1 (by decide) (va_Nw.use rfl (hN.f RX7 85 "CongestionBench$Parcel" "flow" "I" "CongestionBench" (by decide +kernel))) (fun _ h9 => h9) rfl (by decide +kernel) rfl rfl (Nat.le_of_ble_eq_true rfl) dX7_launch_101 (fun H locs hP1 hD1 hS => ?_)
          have hP : va_P D vwCl ([(r1, chC cf cl zn 0), (r2, chC cf cl zn 1), (r3, chC cf cl zn 2), (r0, rdC ov (.ref z_106) r1 r2 r3 r4 r5), (r5, tlC cI tf), (r4, chC cf cl zn 3)] ++ va_pl L (pf cJ kd (upp pi 1 q_155 n1) bd af bo)) H := by rw [← pf_u1 k_q_155, ← va_pl_set hD m_q_155 hk_158]; exact hP1
          have hD : va_D A ([(r1, chC cf cl zn 0), (r2, chC cf cl zn 1), (r3, chC cf cl zn 2), (r0, rdC ov (.ref z_106) r1 r2 r3 r4 r5), (r5, tlC cI tf), (r4, chC cf cl zn 3)] ++ va_pl L (pf cJ kd (upp pi 1 q_155 n1) bd af bo)) := by rw [← pf_u1 k_q_155, ← va_pl_set hD m_q_155 hk_158]; exact hD1
          have hPB := PB_due (k := 1) (a := q_155) (x := n1) hPB (by decide)
          have hQ := QQ_pi (k := 1) (q := q_155) (x := n1) hQ hR t_q_155
          have hG := GG_pi (k := 1) (z := q_155) (x := n1) hG hR t_q_155
          generalize g_159 : upp pi 1 q_155 n1 = pi at hP hD hPB hQ hG
          have p1_q_155 : pi 1 q_155 = n1 := by rw [← g_159]; exact upp_eq
          refine lv_aload hx hb dX7_launch_104 (lv_at hl 0 rfl) ?_
          refine lv_iload_n hx hb dX7_launch_106 rfl (lv_at hl 4 rfl) ?_
          obtain ⟨k_160, hk_160⟩ := va_pl_get (X := [(r1, chC cf cl zn 0), (r2, chC cf cl zn 1), (r3, chC cf cl zn 2), (r0, rdC ov (.ref z_106) r1 r2 r3 r4 r5), (r5, tlC cI tf), (r4, chC cf cl zn 3)]) (f := pf cJ kd pi bd af bo) m_q_155
          refine va_putN (D := D) (ci := 5) (v := .int n2) (ty := .int) (C := RX5) (T := TX5) (N := 7) hx hb ha inlX5 tyX5 tyX5_ok nmX5 hown hK hP hD hS k_160 (hk_160.trans (congrArg (fun z => some (q_155, z)) (pf_p k_q_155))) rfl 2 (by decide) (va_Nw.use rfl (hN.f RX7 88 "CongestionBench$Parcel" "number" "I" "CongestionBench" (by decide +kernel))) (fun _ h9 => h9) rfl (by decide +kernel) rfl rfl (Nat.le_of_ble_eq_true rfl) dX7_launch_107 (fun H locs hP1 hD1 hS => ?_)
          have hP : va_P D vwCl ([(r1, chC cf cl zn 0), (r2, chC cf cl zn 1), (r3, chC cf cl zn 2), (r0, rdC ov (.ref z_106) r1 r2 r3 r4 r5), (r5, tlC cI tf), (r4, chC cf cl zn 3)] ++ va_pl L (pf cJ kd (upp pi 2 q_155 n2) bd af bo)) H := by rw [← pf_u2 k_q_155, ← va_pl_set hD m_q_155 hk_160]; exact hP1
          have hD : va_D A ([(r1, chC cf cl zn 0), (r2, chC cf cl zn 1), (r3, chC cf cl zn 2), (r0, rdC ov (.ref z_106) r1 r2 r3 r4 r5), (r5, tlC cI tf), (r4, chC cf cl zn 3)] ++ va_pl L (pf cJ kd (upp pi 2 q_155 n2) bd af bo)) := by rw [← pf_u2 k_q_155, ← va_pl_set hD m_q_155 hk_160]; exact hD1
          have hPB := PB_due (k := 2) (a := q_155) (x := n2) hPB (by decide)
          have hQ := QQ_pi (k := 2) (q := q_155) (x := n2) hQ hR t_q_155
          have hG := GG_pi (k := 2) (z := q_155) (x := n2) hG hR t_q_155
          generalize g_161 : upp pi 2 q_155 n2 = pi at hP hD hPB hQ hG
          have p1_q_155 : pi 1 q_155 = n1 := by rw [← g_161]; exact (upp_ne (by decide)).trans p1_q_155
          have p2_q_155 : pi 2 q_155 = n2 := by rw [← g_161]; exact upp_eq
          refine lv_aload hx hb dX7_launch_110 (lv_at hl 0 rfl) ?_
          refine lv_iload_n hx hb dX7_launch_112 rfl (lv_at hl 5 rfl) ?_
          obtain ⟨k_162, hk_162⟩ := va_pl_get (X := [(r1, chC cf cl zn 0), (r2, chC cf cl zn 1), (r3, chC cf cl zn 2), (r0, rdC ov (.ref z_106) r1 r2 r3 r4 r5), (r5, tlC cI tf), (r4, chC cf cl zn 3)]) (f := pf cJ kd pi bd af bo) m_q_155
          refine va_putN (D := D) (ci := 5) (v := .int n3) (ty := .boolean) (C := RX5) (T := TX5) (N := 7) hx hb ha inlX5 tyX5 tyX5_ok nmX5 hown hK hP hD hS k_162 (hk_162.trans (congrArg (fun z => some (q_155, z)) (pf_p k_q_155))) rfl 3 (by decide) (va_Nw.use rfl (hN.f RX7 91 "CongestionBench$Parcel" "special" "Z" "CongestionBench" (by decide +kernel))) (fun _ h9 => h9) rfl (by decide +kernel) (by rcases hz with h | h <;> rw [h] <;> rfl) (by rcases hz with h | h <;> rw [h] <;> rfl) (Nat.le_of_ble_eq_true rfl) dX7_launch_113 (fun H locs hP1 hD1 hS => ?_)
          have hP : va_P D vwCl ([(r1, chC cf cl zn 0), (r2, chC cf cl zn 1), (r3, chC cf cl zn 2), (r0, rdC ov (.ref z_106) r1 r2 r3 r4 r5), (r5, tlC cI tf), (r4, chC cf cl zn 3)] ++ va_pl L (pf cJ kd (upp pi 3 q_155 n3) bd af bo)) H := by rw [← pf_u3 k_q_155, ← va_pl_set hD m_q_155 hk_162]; exact hP1
          have hD : va_D A ([(r1, chC cf cl zn 0), (r2, chC cf cl zn 1), (r3, chC cf cl zn 2), (r0, rdC ov (.ref z_106) r1 r2 r3 r4 r5), (r5, tlC cI tf), (r4, chC cf cl zn 3)] ++ va_pl L (pf cJ kd (upp pi 3 q_155 n3) bd af bo)) := by rw [← pf_u3 k_q_155, ← va_pl_set hD m_q_155 hk_162]; exact hD1
          have hPB := PB_spec (a := q_155) (x := n3) hPB hz
          have hQ := QQ_pi (k := 3) (q := q_155) (x := n3) hQ hR t_q_155
          have hG := GG_pi (k := 3) (z := q_155) (x := n3) hG hR t_q_155
          generalize g_163 : upp pi 3 q_155 n3 = pi at hP hD hPB hQ hG
          have p1_q_155 : pi 1 q_155 = n1 := by rw [← g_163]; exact (upp_ne (by decide)).trans p1_q_155
          have p2_q_155 : pi 2 q_155 = n2 := by rw [← g_163]; exact (upp_ne (by decide)).trans p2_q_155
          have p3_q_155 : pi 3 q_155 = n3 := by rw [← g_163]; exact upp_eq
          refine lv_aload_n hx hb dX7_launch_116 rfl (lv_at hl 2 rfl) ?_
          refine va_get (D := D) (ci := 7) (v := .ref z_106) (C := RX7) (T := TX7) (N := 15) hx hb ha inlX7 hown hK hP 3 rfl rfl 4 (by decide) (ha _ kf_X7_54) (fun _ h9 => h9) rfl dX7_launch_117 ?_
          refine lv_ifnonnull (tgt := 144) hx hb dX7_launch_120 (by decide) ?_
          refine lv_aload_n hx hb dX7_launch_144 rfl (lv_at hl 2 rfl) ?_
          refine va_get (D := D) (ci := 7) (v := .ref r1) (C := RX7) (T := TX7) (N := 15) hx hb ha inlX7 hown hK hP 3 rfl rfl 5 (by decide) (ha _ kf_X7_27) (fun _ h9 => h9) rfl dX7_launch_145 ?_
          refine lv_aload hx hb dX7_launch_148 (lv_at hl 0 rfl) ?_
          have hPc := hP.part (X := [(r1, chC cf cl zn 0), (r2, chC cf cl zn 1), (r3, chC cf cl zn 2), (r0, rdC ov (.ref z_106) r1 r2 r3 r4 r5), (r5, tlC cI tf), (r4, chC cf cl zn 3)]) (cx := [(r1, chC cf cl zn 0)]) (pl := va_pl L (pf cJ kd pi bd af bo)) [0] rfl
          have hDc := hD.part (X := [(r1, chC cf cl zn 0), (r2, chC cf cl zn 1), (r3, chC cf cl zn 2), (r0, rdC ov (.ref z_106) r1 r2 r3 r4 r5), (r5, tlC cI tf), (r4, chC cf cl zn 3)]) (cx := [(r1, chC cf cl zn 0)]) (pl := va_pl L (pf cJ kd pi bd af bo)) [0] (by decide) rfl
          have hFc := va_freeP (X := [(r1, chC cf cl zn 0), (r2, chC cf cl zn 1), (r3, chC cf cl zn 2), (r0, rdC ov (.ref z_106) r1 r2 r3 r4 r5), (r5, tlC cI tf), (r4, chC cf cl zn 3)]) (cx := [(r1, chC cf cl zn 0)]) (pl := va_pl L (pf cJ kd pi bd af bo)) hD hS hA [0] rfl
          refine va_callv (va_runV (As := [.ref q_155]) (rest := []) ⟨hx, hb, hml, hown, ha⟩ (s_append l D cI cJ cZ cO _ r1 q_155 L kd pi bd af bo (cf 0) (cl 0) (zn 0) m_q_155 k_q_155 (RI_la hR (by decide))) (cwV 1 ha (gaV kl_X7_95 km_X1_append ks_X1_append kz_X1 kd_X1_append) rfl rfl rfl (by decide +kernel) ⟨Nat.le_of_ble_eq_true rfl, Nat.le_of_ble_eq_true rfl⟩) ⟨pw_blind, va_recv hK hPc (ci := 1) (q0 := 0) rfl rfl, fun U hU hW => ⟨rfl, pw_start hU hW hPc hK hDc hN⟩⟩ rfl rfl hl.1 rfl (lv_room (Nat.le_of_ble_eq_true rfl)) dX7_launch_150 ⟨Nat.le_of_ble_eq_true rfl, Nat.le_of_ble_eq_true rfl⟩) hS (fun q _ h => hFc q h) hFc (fun u t H1 locs ht hvm hw hB hz1 hk1 hS => ?_)
          obtain ⟨hP1, hK1, hD1⟩ := hB
          rw [ht] at hP1
          obtain ⟨hP, hD⟩ := va_joinP (wr := [(r2, chC cf cl zn 1), (r3, chC cf cl zn 2), (r0, rdC ov (.ref z_106) r1 r2 r3 r4 r5), (r5, tlC cI tf), (r4, chC cf cl zn 3)]) (rx := [(r1, .inr (1, [va_rf (ap_fi (cl 0) (cf 0) q_155), va_rf (some q_155), .int ((zn 0) + 1)]))]) (pl1 := va_pl L (pf cJ kd pi bd (ap_af af (cl 0) q_155) bo)) hP hD [0] [1, 2, 3, 4, 5] rfl rfl (by decide) (by decide) hk1 hFc hP1 hD1
          generalize H1 = H at hP hS ⊢
          have hP : va_P D vwCl ([(r2, chC cf cl zn 1), (r3, chC cf cl zn 2), (r0, rdC ov (.ref z_106) r1 r2 r3 r4 r5), (r5, tlC cI tf), (r4, chC cf cl zn 3), (r1, .inr (1, [va_rf (ap_fi (cl 0) (cf 0) q_155), va_rf (some q_155), .int ((zn 0) + 1)]))] ++ va_pl L (pf cJ kd pi bd (ap_af af (cl 0) q_155) bo)) H := hP
          have hD : va_D A ([(r2, chC cf cl zn 1), (r3, chC cf cl zn 2), (r0, rdC ov (.ref z_106) r1 r2 r3 r4 r5), (r5, tlC cI tf), (r4, chC cf cl zn 3), (r1, .inr (1, [va_rf (ap_fi (cl 0) (cf 0) q_155), va_rf (some q_155), .int ((zn 0) + 1)]))] ++ va_pl L (pf cJ kd pi bd (ap_af af (cl 0) q_155) bo)) := hD
          refine W.widen (k := 2) (n := 11) (Nat.le_of_ble_eq_true rfl) (Nat.le_of_ble_eq_true rfl) ?_
          have hZ := ZN_app (q := q_155) hZ (j := 0) (by decide)
          have hR := RI_append hR (i := 0) (by decide) m_q_155 k_q_155 t_q_155
          have hQ := QQ_app0 hQ o_q_155 hlt
          have hG := GG_app0 (z := q_155) hG
          rw [show cq pi q_155 = (n1, n2, n3) by unfold cq; rw [p1_q_155, p2_q_155, p3_q_155]] at hG
          generalize hgh_165 : gq ++ [(n1, n2, n3)] = gq at hG
          have hE := bs_at hgh_165 hE
          generalize (ap_af af (cl 0) q_155) = af at hP hD hR
          have hP : va_P D vwCl ([(r2, .inr (1, [va_rf (va_up cf 0 (ap_fi (cl 0) (cf 0) q_155) 1), va_rf (va_up cl 0 (some q_155) 1), .int (va_up zn 0 (zn 0 + 1) 1)])), (r3, .inr (1, [va_rf (va_up cf 0 (ap_fi (cl 0) (cf 0) q_155) 2), va_rf (va_up cl 0 (some q_155) 2), .int (va_up zn 0 (zn 0 + 1) 2)])), (r0, rdC ov (.ref z_106) r1 r2 r3 r4 r5), (r5, tlC cI tf), (r4, .inr (1, [va_rf (va_up cf 0 (ap_fi (cl 0) (cf 0) q_155) 3), va_rf (va_up cl 0 (some q_155) 3), .int (va_up zn 0 (zn 0 + 1) 3)])), (r1, .inr (1, [va_rf (va_up cf 0 (ap_fi (cl 0) (cf 0) q_155) 0), va_rf (va_up cl 0 (some q_155) 0), .int (va_up zn 0 (zn 0 + 1) 0)]))] ++ va_pl L (pf cJ kd pi bd af bo)) H := hP
          have hD : va_D A ([(r2, .inr (1, [va_rf (va_up cf 0 (ap_fi (cl 0) (cf 0) q_155) 1), va_rf (va_up cl 0 (some q_155) 1), .int (va_up zn 0 (zn 0 + 1) 1)])), (r3, .inr (1, [va_rf (va_up cf 0 (ap_fi (cl 0) (cf 0) q_155) 2), va_rf (va_up cl 0 (some q_155) 2), .int (va_up zn 0 (zn 0 + 1) 2)])), (r0, rdC ov (.ref z_106) r1 r2 r3 r4 r5), (r5, tlC cI tf), (r4, .inr (1, [va_rf (va_up cf 0 (ap_fi (cl 0) (cf 0) q_155) 3), va_rf (va_up cl 0 (some q_155) 3), .int (va_up zn 0 (zn 0 + 1) 3)])), (r1, .inr (1, [va_rf (va_up cf 0 (ap_fi (cl 0) (cf 0) q_155) 0), va_rf (va_up cl 0 (some q_155) 0), .int (va_up zn 0 (zn 0 + 1) 0)]))] ++ va_pl L (pf cJ kd pi bd af bo)) := hD
          generalize g_166 : va_up cf 0 (ap_fi (cl 0) (cf 0) q_155) = cf at hP hD hR hn3
          generalize g_167 : va_up cl 0 (some q_155) = cl at hP hD hR
          generalize g_168 : va_up zn 0 (zn 0 + 1) = zn at hP hD hZ
          generalize g_169 : va_up xl 0 (xl 0 ++ [q_155]) = xl at hR hZ hQ hG
          generalize g_170 : va_up tag q_155 0 = tag at hR hQ
          refine W.know2 (fun hk1 hk2 => ?_)
          have hgr : gr s.heap _ 1 := ⟨hk1, hk2⟩
          have hP9 : va_P D vwCl ([(r0, rdC ov (va_rf (some z_106)) r1 r2 r3 r4 r5), (r1, chC cf cl zn 0), (r2, chC cf cl zn 1), (r3, chC cf cl zn 2), (r4, chC cf cl zn 3), (r5, tlC cI tf)] ++ va_pl L (pf cJ kd pi bd af bo)) _ := hP.part [2, 5, 0, 1, 4, 3] rfl
          have hD9 : va_D A ([(r0, rdC ov (va_rf (some z_106)) r1 r2 r3 r4 r5), (r1, chC cf cl zn 0), (r2, chC cf cl zn 1), (r3, chC cf cl zn 2), (r4, chC cf cl zn 3), (r5, tlC cI tf)] ++ va_pl L (pf cJ kd pi bd af bo)) := hD.part [2, 5, 0, 1, 4, 3] (by decide) rfl
          exact W.vret hx hb hr (fun t ht hW => ⟨⟨(), rfl, trivial, ⟨ov, tf, (some z_106), cf, cl, zn, xl, tag, L, kd, pi, bd, af, bo, 1, go, gq, ⟨⟨hR, hPB, hZ, hT, by rw [ht]; exact hgr, by decide, hLK, hQ⟩, ⟨hG, hJ⟩, (by rw [← hRES, hE]), (by rw [← hRES, hE]), (by rw [← hRES, hE]), (by rw [← hRES, hE])⟩, by rw [ht]; exact hP9, va_K.moved hW.alike hK, hD9⟩⟩, hS.F ht⟩) hS.2.2 dX7_launch_153
        | some z_148 =>
          rw [ho_149] at hR hZ hP hD
          have m_z_148 := (RI_hd hR0 (i := 3) (by decide) ho_149).1
          have k_z_148 := (RI_hd hR0 (i := 3) (by decide) ho_149).2.1
          have t_z_148 := (show tk_tag tag (some z_148) z_148 = 6 from va_up_self tag z_148 6)
          have o_z_148 := QQ_o hQ (q := z_148) (by rw [RI_tg hR0 (i := 3) (by decide) ho_149]; decide)
          have hQ := QQ_tks3 hQ hR0 ho_149
          have hG := GG_x3 (l := (xl 3).tail) hG
          have hlt : (va_up xl 3 (xl 3).tail 0).length < 100 := by rw [va_up_ne _ _ (by decide)]; exact hlt
          have hP : va_P D vwCl ([(r1, .inr (1, [va_rf (va_up cf 3 (tk_fi af (some z_148)) 0), va_rf (va_up cl 3 (tk_la af (some z_148) (cl 3)) 0), .int (va_up zn 3 (tk_n (some z_148) (zn 3)) 0)])), (r2, .inr (1, [va_rf (va_up cf 3 (tk_fi af (some z_148)) 1), va_rf (va_up cl 3 (tk_la af (some z_148) (cl 3)) 1), .int (va_up zn 3 (tk_n (some z_148) (zn 3)) 1)])), (r3, .inr (1, [va_rf (va_up cf 3 (tk_fi af (some z_148)) 2), va_rf (va_up cl 3 (tk_la af (some z_148) (cl 3)) 2), .int (va_up zn 3 (tk_n (some z_148) (zn 3)) 2)])), (r0, rdC ov (.ref z_106) r1 r2 r3 r4 r5), (r5, tlC cI tf), (r4, .inr (1, [va_rf (va_up cf 3 (tk_fi af (some z_148)) 3), va_rf (va_up cl 3 (tk_la af (some z_148) (cl 3)) 3), .int (va_up zn 3 (tk_n (some z_148) (zn 3)) 3)]))] ++ va_pl L (pf cJ kd pi bd (tk_af af (some z_148)) bo)) H := hP
          have hD : va_D A ([(r1, .inr (1, [va_rf (va_up cf 3 (tk_fi af (some z_148)) 0), va_rf (va_up cl 3 (tk_la af (some z_148) (cl 3)) 0), .int (va_up zn 3 (tk_n (some z_148) (zn 3)) 0)])), (r2, .inr (1, [va_rf (va_up cf 3 (tk_fi af (some z_148)) 1), va_rf (va_up cl 3 (tk_la af (some z_148) (cl 3)) 1), .int (va_up zn 3 (tk_n (some z_148) (zn 3)) 1)])), (r3, .inr (1, [va_rf (va_up cf 3 (tk_fi af (some z_148)) 2), va_rf (va_up cl 3 (tk_la af (some z_148) (cl 3)) 2), .int (va_up zn 3 (tk_n (some z_148) (zn 3)) 2)])), (r0, rdC ov (.ref z_106) r1 r2 r3 r4 r5), (r5, tlC cI tf), (r4, .inr (1, [va_rf (va_up cf 3 (tk_fi af (some z_148)) 3), va_rf (va_up cl 3 (tk_la af (some z_148) (cl 3)) 3), .int (va_up zn 3 (tk_n (some z_148) (zn 3)) 3)]))] ++ va_pl L (pf cJ kd pi bd (tk_af af (some z_148)) bo)) := hD
          generalize g_171 : va_up cf 3 (tk_fi af (some z_148)) = cf at hP hD hR
          generalize g_172 : va_up cl 3 (tk_la af (some z_148) (cl 3)) = cl at hP hD hR
          generalize g_173 : va_up zn 3 (tk_n (some z_148) (zn 3)) = zn at hP hD hZ
          generalize g_174 : va_up xl 3 (xl 3).tail = xl at hR hZ hQ hG hlt
          generalize g_175 : tk_tag tag (some z_148) = tag at hR hQ t_z_148
          generalize (tk_af af (some z_148)) = af at hP hD hR
          refine lv_astore (lv' := [(6, .ref z_148), (5, .int r_101), (0, .ref r0), (1, .int n1), (2, .int n2), (3, .int n3), (4, .int n4)]) hx hb dX7_launch_82 hl (by decide) rfl (fun ls hl => ?_)
          refine lv_aload hx hb dX7_launch_84 (lv_at hl 0 rfl) ?_
          refine lv_ifnonnull (tgt := 98) hx hb dX7_launch_86 (by decide) ?_
          refine lv_aload hx hb dX7_launch_98 (lv_at hl 0 rfl) ?_
          refine lv_iload_n hx hb dX7_launch_100 rfl (lv_at hl 3 rfl) ?_
          obtain ⟨k_176, hk_176⟩ := va_pl_get (X := [(r1, chC cf cl zn 0), (r2, chC cf cl zn 1), (r3, chC cf cl zn 2), (r0, rdC ov (.ref z_106) r1 r2 r3 r4 r5), (r5, tlC cI tf), (r4, chC cf cl zn 3)]) (f := pf cJ kd pi bd af bo) m_z_148
          refine va_putN (D := D) (ci := 5) (v := .int n1) (ty := .int) (C := RX5) (T := TX5) (N := 7) hx hb ha inlX5 tyX5 tyX5_ok nmX5 hown hK hP hD hS k_176 (hk_176.trans (congrArg (fun z => some (z_148, z)) (pf_p k_z_148))) rfl 1 (by decide) (va_Nw.use rfl (hN.f RX7 85 "CongestionBench$Parcel" "flow" "I" "CongestionBench" (by decide +kernel))) (fun _ h9 => h9) rfl (by decide +kernel) rfl rfl (Nat.le_of_ble_eq_true rfl) dX7_launch_101 (fun H locs hP1 hD1 hS => ?_)
          have hP : va_P D vwCl ([(r1, chC cf cl zn 0), (r2, chC cf cl zn 1), (r3, chC cf cl zn 2), (r0, rdC ov (.ref z_106) r1 r2 r3 r4 r5), (r5, tlC cI tf), (r4, chC cf cl zn 3)] ++ va_pl L (pf cJ kd (upp pi 1 z_148 n1) bd af bo)) H := by rw [← pf_u1 k_z_148, ← va_pl_set hD m_z_148 hk_176]; exact hP1
          have hD : va_D A ([(r1, chC cf cl zn 0), (r2, chC cf cl zn 1), (r3, chC cf cl zn 2), (r0, rdC ov (.ref z_106) r1 r2 r3 r4 r5), (r5, tlC cI tf), (r4, chC cf cl zn 3)] ++ va_pl L (pf cJ kd (upp pi 1 z_148 n1) bd af bo)) := by rw [← pf_u1 k_z_148, ← va_pl_set hD m_z_148 hk_176]; exact hD1
          have hPB := PB_due (k := 1) (a := z_148) (x := n1) hPB (by decide)
          have hQ := QQ_pi (k := 1) (q := z_148) (x := n1) hQ hR t_z_148
          have hG := GG_pi (k := 1) (z := z_148) (x := n1) hG hR t_z_148
          generalize g_177 : upp pi 1 z_148 n1 = pi at hP hD hPB hQ hG
          have p1_z_148 : pi 1 z_148 = n1 := by rw [← g_177]; exact upp_eq
          refine lv_aload hx hb dX7_launch_104 (lv_at hl 0 rfl) ?_
          refine lv_iload_n hx hb dX7_launch_106 rfl (lv_at hl 4 rfl) ?_
          obtain ⟨k_178, hk_178⟩ := va_pl_get (X := [(r1, chC cf cl zn 0), (r2, chC cf cl zn 1), (r3, chC cf cl zn 2), (r0, rdC ov (.ref z_106) r1 r2 r3 r4 r5), (r5, tlC cI tf), (r4, chC cf cl zn 3)]) (f := pf cJ kd pi bd af bo) m_z_148
          refine va_putN (D := D) (ci := 5) (v := .int n2) (ty := .int) (C := RX5) (T := TX5) (N := 7) hx hb ha inlX5 tyX5 tyX5_ok nmX5 hown hK hP hD hS k_178 (hk_178.trans (congrArg (fun z => some (z_148, z)) (pf_p k_z_148))) rfl 2 (by decide) (va_Nw.use rfl (hN.f RX7 88 "CongestionBench$Parcel" "number" "I" "CongestionBench" (by decide +kernel))) (fun _ h9 => h9) rfl (by decide +kernel) rfl rfl (Nat.le_of_ble_eq_true rfl) dX7_launch_107 (fun H locs hP1 hD1 hS => ?_)
          have hP : va_P D vwCl ([(r1, chC cf cl zn 0), (r2, chC cf cl zn 1), (r3, chC cf cl zn 2), (r0, rdC ov (.ref z_106) r1 r2 r3 r4 r5), (r5, tlC cI tf), (r4, chC cf cl zn 3)] ++ va_pl L (pf cJ kd (upp pi 2 z_148 n2) bd af bo)) H := by rw [← pf_u2 k_z_148, ← va_pl_set hD m_z_148 hk_178]; exact hP1
          have hD : va_D A ([(r1, chC cf cl zn 0), (r2, chC cf cl zn 1), (r3, chC cf cl zn 2), (r0, rdC ov (.ref z_106) r1 r2 r3 r4 r5), (r5, tlC cI tf), (r4, chC cf cl zn 3)] ++ va_pl L (pf cJ kd (upp pi 2 z_148 n2) bd af bo)) := by rw [← pf_u2 k_z_148, ← va_pl_set hD m_z_148 hk_178]; exact hD1
          have hPB := PB_due (k := 2) (a := z_148) (x := n2) hPB (by decide)
          have hQ := QQ_pi (k := 2) (q := z_148) (x := n2) hQ hR t_z_148
          have hG := GG_pi (k := 2) (z := z_148) (x := n2) hG hR t_z_148
          generalize g_179 : upp pi 2 z_148 n2 = pi at hP hD hPB hQ hG
          have p1_z_148 : pi 1 z_148 = n1 := by rw [← g_179]; exact (upp_ne (by decide)).trans p1_z_148
          have p2_z_148 : pi 2 z_148 = n2 := by rw [← g_179]; exact upp_eq
          refine lv_aload hx hb dX7_launch_110 (lv_at hl 0 rfl) ?_
          refine lv_iload_n hx hb dX7_launch_112 rfl (lv_at hl 5 rfl) ?_
          obtain ⟨k_180, hk_180⟩ := va_pl_get (X := [(r1, chC cf cl zn 0), (r2, chC cf cl zn 1), (r3, chC cf cl zn 2), (r0, rdC ov (.ref z_106) r1 r2 r3 r4 r5), (r5, tlC cI tf), (r4, chC cf cl zn 3)]) (f := pf cJ kd pi bd af bo) m_z_148
          refine va_putN (D := D) (ci := 5) (v := .int n3) (ty := .boolean) (C := RX5) (T := TX5) (N := 7) hx hb ha inlX5 tyX5 tyX5_ok nmX5 hown hK hP hD hS k_180 (hk_180.trans (congrArg (fun z => some (z_148, z)) (pf_p k_z_148))) rfl 3 (by decide) (va_Nw.use rfl (hN.f RX7 91 "CongestionBench$Parcel" "special" "Z" "CongestionBench" (by decide +kernel))) (fun _ h9 => h9) rfl (by decide +kernel) (by rcases hz with h | h <;> rw [h] <;> rfl) (by rcases hz with h | h <;> rw [h] <;> rfl) (Nat.le_of_ble_eq_true rfl) dX7_launch_113 (fun H locs hP1 hD1 hS => ?_)
          have hP : va_P D vwCl ([(r1, chC cf cl zn 0), (r2, chC cf cl zn 1), (r3, chC cf cl zn 2), (r0, rdC ov (.ref z_106) r1 r2 r3 r4 r5), (r5, tlC cI tf), (r4, chC cf cl zn 3)] ++ va_pl L (pf cJ kd (upp pi 3 z_148 n3) bd af bo)) H := by rw [← pf_u3 k_z_148, ← va_pl_set hD m_z_148 hk_180]; exact hP1
          have hD : va_D A ([(r1, chC cf cl zn 0), (r2, chC cf cl zn 1), (r3, chC cf cl zn 2), (r0, rdC ov (.ref z_106) r1 r2 r3 r4 r5), (r5, tlC cI tf), (r4, chC cf cl zn 3)] ++ va_pl L (pf cJ kd (upp pi 3 z_148 n3) bd af bo)) := by rw [← pf_u3 k_z_148, ← va_pl_set hD m_z_148 hk_180]; exact hD1
          have hPB := PB_spec (a := z_148) (x := n3) hPB hz
          have hQ := QQ_pi (k := 3) (q := z_148) (x := n3) hQ hR t_z_148
          have hG := GG_pi (k := 3) (z := z_148) (x := n3) hG hR t_z_148
          generalize g_181 : upp pi 3 z_148 n3 = pi at hP hD hPB hQ hG
          have p1_z_148 : pi 1 z_148 = n1 := by rw [← g_181]; exact (upp_ne (by decide)).trans p1_z_148
          have p2_z_148 : pi 2 z_148 = n2 := by rw [← g_181]; exact (upp_ne (by decide)).trans p2_z_148
          have p3_z_148 : pi 3 z_148 = n3 := by rw [← g_181]; exact upp_eq
          refine lv_aload_n hx hb dX7_launch_116 rfl (lv_at hl 2 rfl) ?_
          refine va_get (D := D) (ci := 7) (v := .ref z_106) (C := RX7) (T := TX7) (N := 15) hx hb ha inlX7 hown hK hP 3 rfl rfl 4 (by decide) (ha _ kf_X7_54) (fun _ h9 => h9) rfl dX7_launch_117 ?_
          refine lv_ifnonnull (tgt := 144) hx hb dX7_launch_120 (by decide) ?_
          refine lv_aload_n hx hb dX7_launch_144 rfl (lv_at hl 2 rfl) ?_
          refine va_get (D := D) (ci := 7) (v := .ref r1) (C := RX7) (T := TX7) (N := 15) hx hb ha inlX7 hown hK hP 3 rfl rfl 5 (by decide) (ha _ kf_X7_27) (fun _ h9 => h9) rfl dX7_launch_145 ?_
          refine lv_aload hx hb dX7_launch_148 (lv_at hl 0 rfl) ?_
          have hPc := hP.part (X := [(r1, chC cf cl zn 0), (r2, chC cf cl zn 1), (r3, chC cf cl zn 2), (r0, rdC ov (.ref z_106) r1 r2 r3 r4 r5), (r5, tlC cI tf), (r4, chC cf cl zn 3)]) (cx := [(r1, chC cf cl zn 0)]) (pl := va_pl L (pf cJ kd pi bd af bo)) [0] rfl
          have hDc := hD.part (X := [(r1, chC cf cl zn 0), (r2, chC cf cl zn 1), (r3, chC cf cl zn 2), (r0, rdC ov (.ref z_106) r1 r2 r3 r4 r5), (r5, tlC cI tf), (r4, chC cf cl zn 3)]) (cx := [(r1, chC cf cl zn 0)]) (pl := va_pl L (pf cJ kd pi bd af bo)) [0] (by decide) rfl
          have hFc := va_freeP (X := [(r1, chC cf cl zn 0), (r2, chC cf cl zn 1), (r3, chC cf cl zn 2), (r0, rdC ov (.ref z_106) r1 r2 r3 r4 r5), (r5, tlC cI tf), (r4, chC cf cl zn 3)]) (cx := [(r1, chC cf cl zn 0)]) (pl := va_pl L (pf cJ kd pi bd af bo)) hD hS hA [0] rfl
          refine va_callv (va_runV (As := [.ref z_148]) (rest := []) ⟨hx, hb, hml, hown, ha⟩ (s_append l D cI cJ cZ cO _ r1 z_148 L kd pi bd af bo (cf 0) (cl 0) (zn 0) m_z_148 k_z_148 (RI_la hR (by decide))) (cwV 1 ha (gaV kl_X7_95 km_X1_append ks_X1_append kz_X1 kd_X1_append) rfl rfl rfl (by decide +kernel) ⟨Nat.le_of_ble_eq_true rfl, Nat.le_of_ble_eq_true rfl⟩) ⟨pw_blind, va_recv hK hPc (ci := 1) (q0 := 0) rfl rfl, fun U hU hW => ⟨rfl, pw_start hU hW hPc hK hDc hN⟩⟩ rfl rfl hl.1 rfl (lv_room (Nat.le_of_ble_eq_true rfl)) dX7_launch_150 ⟨Nat.le_of_ble_eq_true rfl, Nat.le_of_ble_eq_true rfl⟩) hS (fun q _ h => hFc q h) hFc (fun u t H1 locs ht hvm hw hB hz1 hk1 hS => ?_)
          obtain ⟨hP1, hK1, hD1⟩ := hB
          rw [ht] at hP1
          obtain ⟨hP, hD⟩ := va_joinP (wr := [(r2, chC cf cl zn 1), (r3, chC cf cl zn 2), (r0, rdC ov (.ref z_106) r1 r2 r3 r4 r5), (r5, tlC cI tf), (r4, chC cf cl zn 3)]) (rx := [(r1, .inr (1, [va_rf (ap_fi (cl 0) (cf 0) z_148), va_rf (some z_148), .int ((zn 0) + 1)]))]) (pl1 := va_pl L (pf cJ kd pi bd (ap_af af (cl 0) z_148) bo)) hP hD [0] [1, 2, 3, 4, 5] rfl rfl (by decide) (by decide) hk1 hFc hP1 hD1
          generalize H1 = H at hP hS ⊢
          have hP : va_P D vwCl ([(r2, chC cf cl zn 1), (r3, chC cf cl zn 2), (r0, rdC ov (.ref z_106) r1 r2 r3 r4 r5), (r5, tlC cI tf), (r4, chC cf cl zn 3), (r1, .inr (1, [va_rf (ap_fi (cl 0) (cf 0) z_148), va_rf (some z_148), .int ((zn 0) + 1)]))] ++ va_pl L (pf cJ kd pi bd (ap_af af (cl 0) z_148) bo)) H := hP
          have hD : va_D A ([(r2, chC cf cl zn 1), (r3, chC cf cl zn 2), (r0, rdC ov (.ref z_106) r1 r2 r3 r4 r5), (r5, tlC cI tf), (r4, chC cf cl zn 3), (r1, .inr (1, [va_rf (ap_fi (cl 0) (cf 0) z_148), va_rf (some z_148), .int ((zn 0) + 1)]))] ++ va_pl L (pf cJ kd pi bd (ap_af af (cl 0) z_148) bo)) := hD
          refine W.widen (k := 0) (n := 0) (Nat.le_of_ble_eq_true rfl) (Nat.le_of_ble_eq_true rfl) ?_
          have hZ := ZN_app (q := z_148) hZ (j := 0) (by decide)
          have hR := RI_append hR (i := 0) (by decide) m_z_148 k_z_148 t_z_148
          have hQ := QQ_app0 hQ o_z_148 hlt
          have hG := GG_app0 (z := z_148) hG
          rw [show cq pi z_148 = (n1, n2, n3) by unfold cq; rw [p1_z_148, p2_z_148, p3_z_148]] at hG
          generalize hgh_183 : gq ++ [(n1, n2, n3)] = gq at hG
          have hE := bs_at hgh_183 hE
          generalize (ap_af af (cl 0) z_148) = af at hP hD hR
          have hP : va_P D vwCl ([(r2, .inr (1, [va_rf (va_up cf 0 (ap_fi (cl 0) (cf 0) z_148) 1), va_rf (va_up cl 0 (some z_148) 1), .int (va_up zn 0 (zn 0 + 1) 1)])), (r3, .inr (1, [va_rf (va_up cf 0 (ap_fi (cl 0) (cf 0) z_148) 2), va_rf (va_up cl 0 (some z_148) 2), .int (va_up zn 0 (zn 0 + 1) 2)])), (r0, rdC ov (.ref z_106) r1 r2 r3 r4 r5), (r5, tlC cI tf), (r4, .inr (1, [va_rf (va_up cf 0 (ap_fi (cl 0) (cf 0) z_148) 3), va_rf (va_up cl 0 (some z_148) 3), .int (va_up zn 0 (zn 0 + 1) 3)])), (r1, .inr (1, [va_rf (va_up cf 0 (ap_fi (cl 0) (cf 0) z_148) 0), va_rf (va_up cl 0 (some z_148) 0), .int (va_up zn 0 (zn 0 + 1) 0)]))] ++ va_pl L (pf cJ kd pi bd af bo)) H := hP
          have hD : va_D A ([(r2, .inr (1, [va_rf (va_up cf 0 (ap_fi (cl 0) (cf 0) z_148) 1), va_rf (va_up cl 0 (some z_148) 1), .int (va_up zn 0 (zn 0 + 1) 1)])), (r3, .inr (1, [va_rf (va_up cf 0 (ap_fi (cl 0) (cf 0) z_148) 2), va_rf (va_up cl 0 (some z_148) 2), .int (va_up zn 0 (zn 0 + 1) 2)])), (r0, rdC ov (.ref z_106) r1 r2 r3 r4 r5), (r5, tlC cI tf), (r4, .inr (1, [va_rf (va_up cf 0 (ap_fi (cl 0) (cf 0) z_148) 3), va_rf (va_up cl 0 (some z_148) 3), .int (va_up zn 0 (zn 0 + 1) 3)])), (r1, .inr (1, [va_rf (va_up cf 0 (ap_fi (cl 0) (cf 0) z_148) 0), va_rf (va_up cl 0 (some z_148) 0), .int (va_up zn 0 (zn 0 + 1) 0)]))] ++ va_pl L (pf cJ kd pi bd af bo)) := hD
          generalize g_184 : va_up cf 0 (ap_fi (cl 0) (cf 0) z_148) = cf at hP hD hR
          generalize g_185 : va_up cl 0 (some z_148) = cl at hP hD hR
          generalize g_186 : va_up zn 0 (zn 0 + 1) = zn at hP hD hZ
          generalize g_187 : va_up xl 0 (xl 0 ++ [z_148]) = xl at hR hZ hQ hG
          generalize g_188 : va_up tag z_148 0 = tag at hR hQ
          refine W.know2 (fun hk1 hk2 => ?_)
          have hgr : gr s.heap _ 0 := ⟨hk1, hk2⟩
          refine W.widen (k := 2) (n := 11) (Nat.le_of_ble_eq_true rfl) (Nat.le_of_ble_eq_true rfl) ?_
          have hP9 : va_P D vwCl ([(r0, rdC ov (va_rf (some z_106)) r1 r2 r3 r4 r5), (r1, chC cf cl zn 0), (r2, chC cf cl zn 1), (r3, chC cf cl zn 2), (r4, chC cf cl zn 3), (r5, tlC cI tf)] ++ va_pl L (pf cJ kd pi bd af bo)) _ := hP.part [2, 5, 0, 1, 4, 3] rfl
          have hD9 : va_D A ([(r0, rdC ov (va_rf (some z_106)) r1 r2 r3 r4 r5), (r1, chC cf cl zn 0), (r2, chC cf cl zn 1), (r3, chC cf cl zn 2), (r4, chC cf cl zn 3), (r5, tlC cI tf)] ++ va_pl L (pf cJ kd pi bd af bo)) := hD.part [2, 5, 0, 1, 4, 3] (by decide) rfl
          exact W.vret hx hb hr (fun t ht hW => ⟨⟨(), rfl, trivial, ⟨ov, tf, (some z_106), cf, cl, zn, xl, tag, L, kd, pi, bd, af, bo, 0, go, gq, ⟨⟨hR, hPB, hZ, hT, by rw [ht]; exact hgr, by decide, hLK, hQ⟩, ⟨hG, hJ⟩, (by rw [← hRES, hE]), (by rw [← hRES, hE]), (by rw [← hRES, hE]), (by rw [← hRES, hE])⟩, by rw [ht]; exact hP9, va_K.moved hW.alike hK, hD9⟩⟩, hS.F ht⟩) hS.2.2 dX7_launch_153
      · have hE := hE.trans (if_neg (by rw [← hzq]; exact c_146))
        refine lv_aload_n hx hb dX7_launch_64 rfl (lv_at hl 1 rfl) ?_
        refine lv_dup hx hb dX7_launch_65 rfl ?_
        refine va_get (D := D) (ci := 7) (v := .int (ov 12)) (C := RX7) (T := TX7) (N := 15) hx hb ha inlX7 hown hK hP 4 rfl rfl 12 (by decide) (ha _ kf_X7_81) (fun _ h9 => h9) rfl dX7_launch_66 ?_
        refine lv_topi (fun x_189 ex_189 => ?_)
        have hE := bd_at ex_189 hE
        refine lv_iconst (v := 1) hx hb dX7_launch_69 (by decide) ?_
        refine lv_iadd hx hb dX7_launch_70 ?_
        refine lv_topi (fun x_190 ex_190 => ?_)
        have hE := bd_at ex_190 hE
        refine va_put (D := D) (ci := 7) (v := .int x_190) (ty := .int) (C := RX7) (T := TX7) (N := 15) hx hb ha inlX7 tyX7 tyX7_ok nmX7 hown hK hP hD hS 4 rfl rfl 12 (by decide) (ha _ kf_X7_81) (fun _ h9 => h9) rfl (by decide +kernel) rfl rfl (Nat.le_of_ble_eq_true rfl) dX7_launch_71 (fun H locs hP hD hS => ?_)
        have hP : va_P D vwCl ([(r1, chC cf cl zn 0), (r2, chC cf cl zn 1), (r3, chC cf cl zn 2), (r4, chC cf cl zn 3), (r0, rdC (upd ov 12 x_190) (.ref z_106) r1 r2 r3 r4 r5), (r5, tlC cI tf)] ++ va_pl L (pf cJ kd pi bd af bo)) H := hP
        have hD : va_D A ([(r1, chC cf cl zn 0), (r2, chC cf cl zn 1), (r3, chC cf cl zn 2), (r4, chC cf cl zn 3), (r0, rdC (upd ov 12 x_190) (.ref z_106) r1 r2 r3 r4 r5), (r5, tlC cI tf)] ++ va_pl L (pf cJ kd pi bd af bo)) := hD
        generalize hg_191 : upd ov 12 x_190 = ov at hP hD
        have hE := bs_at hg_191 hE
        have hT : 0 ≤ ov 10 := by have h9 := congrFun hg_191 10; rw [← h9]; exact hT
        have hLK := LK_of hLK ⟨(congrFun hg_191 1).symm, (congrFun hg_191 2).symm, (congrFun hg_191 3).symm⟩
        refine W.know2 (fun hk1 hk2 => ?_)
        have hgr : gr s.heap _ 0 := ⟨hk1, hk2⟩
        refine W.widen (k := 2) (n := 11) (Nat.le_of_ble_eq_true rfl) (Nat.le_of_ble_eq_true rfl) ?_
        have hP9 : va_P D vwCl ([(r0, rdC ov (va_rf (some z_106)) r1 r2 r3 r4 r5), (r1, chC cf cl zn 0), (r2, chC cf cl zn 1), (r3, chC cf cl zn 2), (r4, chC cf cl zn 3), (r5, tlC cI tf)] ++ va_pl L (pf cJ kd pi bd af bo)) _ := hP.part [4, 0, 1, 2, 3, 5] rfl
        have hD9 : va_D A ([(r0, rdC ov (va_rf (some z_106)) r1 r2 r3 r4 r5), (r1, chC cf cl zn 0), (r2, chC cf cl zn 1), (r3, chC cf cl zn 2), (r4, chC cf cl zn 3), (r5, tlC cI tf)] ++ va_pl L (pf cJ kd pi bd af bo)) := hD.part [4, 0, 1, 2, 3, 5] (by decide) rfl
        exact W.vret hx hb hr (fun t ht hW => ⟨⟨(), rfl, trivial, ⟨ov, tf, (some z_106), cf, cl, zn, xl, tag, L, kd, pi, bd, af, bo, 0, go, gq, ⟨⟨hR, hPB, hZ, hT, by rw [ht]; exact hgr, by decide, hLK, hQ⟩, ⟨hG, hJ⟩, (by rw [← hRES, hE]), (by rw [← hRES, hE]), (by rw [← hRES, hE]), (by rw [← hRES, hE])⟩, by rw [ht]; exact hP9, va_K.moved hW.alike hK, hD9⟩⟩, hS.F ht⟩) hS.2.2 dX7_launch_74
  · have hE := hE.trans (if_neg c_105)
    refine lv_aload_n hx hb dX7_launch_26 rfl (lv_at hl 1 rfl) ?_
    refine lv_iload hx hb dX7_launch_27 (lv_at hl 0 rfl) ?_
    have hPc := hP.sub (ws' := [(r0, rdC ov (va_rf ol) r1 r2 r3 r4 r5), (r5, tlC cI tf)]) [4, 5] rfl
    have hDc := hD.sub (ws' := [(r0, rdC ov (va_rf ol) r1 r2 r3 r4 r5), (r5, tlC cI tf)]) [4, 5] (by decide) rfl
    have hFc := va_free (wc := [(r0, rdC ov (va_rf ol) r1 r2 r3 r4 r5), (r5, tlC cI tf)]) hD hS hA [4, 5] rfl
    refine va_callv (va_runV (As := [.int r_101]) (rest := []) ⟨hx, hb, hml, hown, ha⟩ (s_forget l D cI cJ cZ cO _ r0 r1 r2 r3 r4 r5 ov tf ol r_101 hT) (cwV 1 ha (gaV kl_X7_71 km_X7_forgetTold ks_X7_forgetTold kz_X7 kd_X7_forgetTold) rfl rfl rfl (by decide +kernel) ⟨Nat.le_of_ble_eq_true rfl, Nat.le_of_ble_eq_true rfl⟩) ⟨pw_blind, va_recv hK hPc (ci := 7) (q0 := 0) rfl rfl, fun U hU hW => ⟨rfl, pw_start hU hW hPc hK hDc hN⟩⟩ rfl rfl hl.1 rfl (lv_room (Nat.le_of_ble_eq_true rfl)) dX7_launch_29 ⟨Nat.le_of_ble_eq_true rfl, Nat.le_of_ble_eq_true rfl⟩) hS (fun q _ h => hFc q h) hFc (fun u t H1 locs ht hvm hw hB hz1 hk1 hS => ?_)
    obtain ⟨ov, tf, ⟨hf_195, hX0, hX1⟩, hP1, hK1, hD1⟩ := hB
    have hE := bd_at rfl hE
    have hE := bd_at hX0 hE
    have hE := bd_at hX1 hE
    rw [ht] at hP1
    obtain ⟨hP, hD⟩ := va_joinQ (wr := [(r1, chC cf cl zn 0), (r2, chC cf cl zn 1), (r3, chC cf cl zn 2), (r4, chC cf cl zn 3)]) (w1 := [(r0, rdC ov (va_rf ol) r1 r2 r3 r4 r5), (r5, tlC cI tf)]) hP hD [4, 5] [0, 1, 2, 3] rfl rfl (by decide) (by decide) hk1 hFc hP1 hD1
    generalize H1 = H at hP hS ⊢
    have hP : va_P D vwCl ([(r1, chC cf cl zn 0), (r2, chC cf cl zn 1), (r3, chC cf cl zn 2), (r4, chC cf cl zn 3), (r0, rdC ov (va_rf ol) r1 r2 r3 r4 r5), (r5, tlC cI tf)] ++ va_pl L (pf cJ kd pi bd af bo)) H := hP
    have hD : va_D A ([(r1, chC cf cl zn 0), (r2, chC cf cl zn 1), (r3, chC cf cl zn 2), (r4, chC cf cl zn 3), (r0, rdC ov (va_rf ol) r1 r2 r3 r4 r5), (r5, tlC cI tf)] ++ va_pl L (pf cJ kd pi bd af bo)) := hD
    refine W.widen (k := 0) (n := 0) (Nat.le_of_ble_eq_true rfl) (Nat.le_of_ble_eq_true rfl) ?_
    have hT := hf_195.1
    have hLK := LK_of hLK hf_195.2
    refine lv_aload_n hx hb dX7_launch_32 rfl (lv_at hl 1 rfl) ?_
    refine lv_dup hx hb dX7_launch_33 rfl ?_
    refine va_get (D := D) (ci := 7) (v := .int (ov 13)) (C := RX7) (T := TX7) (N := 15) hx hb ha inlX7 hown hK hP 4 rfl rfl 13 (by decide) (ha _ kf_X7_75) (fun _ h9 => h9) rfl dX7_launch_34 ?_
    refine lv_topi (fun x_196 ex_196 => ?_)
    have hE := bd_at ex_196 hE
    refine lv_iconst (v := 1) hx hb dX7_launch_37 (by decide) ?_
    refine lv_iadd hx hb dX7_launch_38 ?_
    refine lv_topi (fun x_197 ex_197 => ?_)
    have hE := bd_at ex_197 hE
    refine va_put (D := D) (ci := 7) (v := .int x_197) (ty := .int) (C := RX7) (T := TX7) (N := 15) hx hb ha inlX7 tyX7 tyX7_ok nmX7 hown hK hP hD hS 4 rfl rfl 13 (by decide) (ha _ kf_X7_75) (fun _ h9 => h9) rfl (by decide +kernel) rfl rfl (Nat.le_of_ble_eq_true rfl) dX7_launch_39 (fun H locs hP hD hS => ?_)
    have hP : va_P D vwCl ([(r1, chC cf cl zn 0), (r2, chC cf cl zn 1), (r3, chC cf cl zn 2), (r4, chC cf cl zn 3), (r0, rdC (upd ov 13 x_197) (va_rf ol) r1 r2 r3 r4 r5), (r5, tlC cI tf)] ++ va_pl L (pf cJ kd pi bd af bo)) H := hP
    have hD : va_D A ([(r1, chC cf cl zn 0), (r2, chC cf cl zn 1), (r3, chC cf cl zn 2), (r4, chC cf cl zn 3), (r0, rdC (upd ov 13 x_197) (va_rf ol) r1 r2 r3 r4 r5), (r5, tlC cI tf)] ++ va_pl L (pf cJ kd pi bd af bo)) := hD
    generalize hg_198 : upd ov 13 x_197 = ov at hP hD
    have hE := bs_at hg_198 hE
    have hT : 0 ≤ ov 10 := by have h9 := congrFun hg_198 10; rw [← h9]; exact hT
    have hLK := LK_of hLK ⟨(congrFun hg_198 1).symm, (congrFun hg_198 2).symm, (congrFun hg_198 3).symm⟩
    refine W.know2 (fun hk1 hk2 => ?_)
    have hgr : gr s.heap _ 0 := ⟨hk1, hk2⟩
    refine W.widen (k := 2) (n := 11) (Nat.le_of_ble_eq_true rfl) (Nat.le_of_ble_eq_true rfl) ?_
    have hP9 : va_P D vwCl ([(r0, rdC ov (va_rf ol) r1 r2 r3 r4 r5), (r1, chC cf cl zn 0), (r2, chC cf cl zn 1), (r3, chC cf cl zn 2), (r4, chC cf cl zn 3), (r5, tlC cI tf)] ++ va_pl L (pf cJ kd pi bd af bo)) _ := hP.part [4, 0, 1, 2, 3, 5] rfl
    have hD9 : va_D A ([(r0, rdC ov (va_rf ol) r1 r2 r3 r4 r5), (r1, chC cf cl zn 0), (r2, chC cf cl zn 1), (r3, chC cf cl zn 2), (r4, chC cf cl zn 3), (r5, tlC cI tf)] ++ va_pl L (pf cJ kd pi bd af bo)) := hD.part [4, 0, 1, 2, 3, 5] (by decide) rfl
    exact W.vret hx hb hr (fun t ht hW => ⟨⟨(), rfl, trivial, ⟨ov, tf, ol, cf, cl, zn, xl, tag, L, kd, pi, bd, af, bo, 0, go, gq, ⟨⟨hR, hPB, hZ, hT, by rw [ht]; exact hgr, by decide, hLK, hQ⟩, ⟨hG, hJ⟩, (by rw [← hRES, hE]), (by rw [← hRES, hE]), (by rw [← hRES, hE]), (by rw [← hRES, hE])⟩, by rw [ht]; exact hP9, va_K.moved hW.alike hK, hD9⟩⟩, hS.F ht⟩) hS.2.2 dX7_launch_42

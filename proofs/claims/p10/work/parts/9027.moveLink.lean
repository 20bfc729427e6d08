def xc_moveLink (ov : Nat → Int32) (go : Option S4) (gq : List S3) (gw : List S4) (w : Int32) : (Option S4) × (List S3) × (List S4) :=
  om go (go, gq, gw) (fun c => bd c.1 (fun v1 => if v1 = w then bd (ov 2) (fun v2 => bd (w + v2) (fun v3 => bd (insS (v3, c.2) gw) (fun gw => lm gq (none, gq, gw) (fun e t => bd t (fun gq => bd (ov 0) (fun v4 => bd (w + v4) (fun v5 => bd (some (v5, e)) (fun go => (go, gq, gw))))))))) else (go, gq, gw)))
set_option maxHeartbeats 4000000 in
set_option maxRecDepth 100000 in
theorem s_moveLink (l : Launch) (D : va_G) (cI cJ cZ cO : ClassId) (sz : Nat) (r0 r1 r2 r3 r4 r5 : Nat) (ov : Nat → Int32) (ol : Option Nat) (cf cl : Nat → Option Nat) (zn : Nat → Int32) (xl : Nat → List Nat) (tag : Nat → Nat) (L : List Nat) (kd : Nat → Bool) (pi : Nat → Nat → Int32) (bd : Nat → Nat) (af : Nat → Option Nat) (bo : Nat → Nat → Int64) (go : Option S4) (gq : List S3) (gw : List S4) (ga : List A6) (w : Int32) (hR : RI L kd af tag cf cl xl ol) (hPB : PB L kd pi bd) (hZ : ZN zn xl) (hG : GG xl pi bd bo ol go gq gw ga) (hJ : JB L kd bd) (hS1 : Srt (dz pi (xl 1))) : Met l yX7_moveLink (wa yX7_moveLink cX7_moveLink 4 none) ({ frames := 2, cells := 0, slots := 0, locals := 43 }) (va_Pc [.ref r0, .int w] (pw_s D cI cJ cZ cO sz ([(r0, rdC ov (va_rf ol) r1 r2 r3 r4 r5), (r1, chC cf cl zn 0), (r2, chC cf cl zn 1), (r3, chC cf cl zn 2), (r4, chC cf cl zn 3)] ++ va_pl L (pf cJ kd pi bd af bo)))) (va_Qv (fun (_ : Unit) => True) (fun (_ : Unit) (t : State) => ∃ (ol2 : Option Nat) (cf2 cl2 : Nat → Option Nat) (zn2 : Nat → Int32) (xl2 : Nat → List Nat) (tag2 : Nat → Nat) (pi2 : Nat → Nat → Int32) (af2 : Nat → Option Nat) (wd2 : List Int32) (go2 : Option S4) (gq2 : List S3) (gw2 : List S4), ((RI L kd af2 tag2 cf2 cl2 xl2 ol2 ∧ PB L kd pi2 bd ∧ ZN zn2 xl2 ∧ (wd2 = [] ∨ wd2 = [w + ov 2]) ∧ QQ L kd tag xl pi ol L kd tag2 xl2 pi2 ol2 wd2 [] 0 0) ∧ (GG xl2 pi2 bd bo ol2 go2 gq2 gw2 ga ∧ JB L kd bd) ∧ go2 = (xc_moveLink ov go gq gw w).1 ∧ gq2 = (xc_moveLink ov go gq gw w).2.1 ∧ gw2 = (xc_moveLink ov go gq gw w).2.2) ∧ pw_t D cI cJ cZ cO (va_A ([(r0, rdC ov (va_rf ol) r1 r2 r3 r4 r5), (r1, chC cf cl zn 0), (r2, chC cf cl zn 1), (r3, chC cf cl zn 2), (r4, chC cf cl zn 3)] ++ va_pl L (pf cJ kd pi bd af bo)) sz) ([(r0, rdC ov (va_rf ol2) r1 r2 r3 r4 r5), (r1, chC cf2 cl2 zn2 0), (r2, chC cf2 cl2 zn2 1), (r3, chC cf2 cl2 zn2 2), (r4, chC cf2 cl2 zn2 3)] ++ va_pl L (pf cJ kd pi2 bd af2 bo)) t) (va_A ([(r0, rdC ov (va_rf ol) r1 r2 r3 r4 r5), (r1, chC cf cl zn 0), (r2, chC cf cl zn 1), (r3, chC cf cl zn 2), (r4, chC cf cl zn 3)] ++ va_pl L (pf cJ kd pi bd af bo)) sz)) 0 0 (va_A ([(r0, rdC ov (va_rf ol) r1 r2 r3 r4 r5), (r1, chC cf cl zn 0), (r2, chC cf cl zn 1), (r3, chC cf cl zn 2), (r4, chC cf cl zn 3)] ++ va_pl L (pf cJ kd pi bd af bo)) sz) := by
  refine Met.ofW (cc := cX7_moveLink) (maxL := 4) (ret := none) (by decide) rfl ?_
  intro p e s m args below meth c s₁ B hml hv
  obtain ⟨rfl, hsz, hP, hK, hD0, hN⟩ := hv
  have hx := B.exec
  have hb := B.bytes
  have hr := B.returns
  have hts := atoms_spec (ws := (wa yX7_moveLink cX7_moveLink 4 none)) B.pre
  have ha : ∀ w ∈ wsL_law, w.before _ s = true := fun w h => hts w (List.mem_cons_of_mem _ h)
  have hown : s.vm.findClass RX7 = some m.cls := findClass_of_methodNamed B.named
  have hlocks := B.notSynchronized
  subst hsz
  have hD := hD0.self (sz := s.heap.size)
  generalize hAe : va_A ([(r0, rdC ov (va_rf ol) r1 r2 r3 r4 r5), (r1, chC cf cl zn 0), (r2, chC cf cl zn 1), (r3, chC cf cl zn 2), (r4, chC cf cl zn 3)] ++ va_pl L (pf cJ kd pi bd af bo)) s.heap.size = A at hD ⊢
  have hA : ∀ q : Nat, s.heap.size ≤ q → A q := fun q h => by rw [← hAe]; exact Or.inr h
  have hS : va_S A s.heap s.heap [] := va_S.rf
  have hP : va_P D vwCl ([(r0, rdC ov (va_rf ol) r1 r2 r3 r4 r5), (r1, chC cf cl zn 0), (r2, chC cf cl zn 1), (r3, chC cf cl zn 2), (r4, chC cf cl zn 3)] ++ va_pl L (pf cJ kd pi bd af bo)) s.heap := hP
  have hl := lv_entry ([.ref r0, .int w]) (n := 4) (Nat.le_of_ble_eq_true rfl)
  rw [lg_entry_eq]
  generalize (lg_sl ([.ref r0, .int w]) ++ List.replicate (4 - (lg_sl ([.ref r0, .int w])).length) Slot.unset).toArray = ls at hl ⊢
  have hl : lv_has ls 4 [(0, .ref r0), (1, .int w)] := hl
  obtain ⟨QP, hQP⟩ : ∃ y : State → Prop, y = (MQ below (va_Qv (fun (_ : Unit) => True) (fun (_ : Unit) (t : State) => ∃ (ol2 : Option Nat) (cf2 cl2 : Nat → Option Nat) (zn2 : Nat → Int32) (xl2 : Nat → List Nat) (tag2 : Nat → Nat) (pi2 : Nat → Nat → Int32) (af2 : Nat → Option Nat) (wd2 : List Int32) (go2 : Option S4) (gq2 : List S3) (gw2 : List S4), ((RI L kd af2 tag2 cf2 cl2 xl2 ol2 ∧ PB L kd pi2 bd ∧ ZN zn2 xl2 ∧ (wd2 = [] ∨ wd2 = [w + ov 2]) ∧ QQ L kd tag xl pi ol L kd tag2 xl2 pi2 ol2 wd2 [] 0 0) ∧ (GG xl2 pi2 bd bo ol2 go2 gq2 gw2 ga ∧ JB L kd bd) ∧ go2 = (xc_moveLink ov go gq gw w).1 ∧ gq2 = (xc_moveLink ov go gq gw w).2.1 ∧ gw2 = (xc_moveLink ov go gq gw w).2.2) ∧ pw_t D cI cJ cZ cO A ([(r0, rdC ov (va_rf ol2) r1 r2 r3 r4 r5), (r1, chC cf2 cl2 zn2 0), (r2, chC cf2 cl2 zn2 1), (r3, chC cf2 cl2 zn2 2), (r4, chC cf2 cl2 zn2 3)] ++ va_pl L (pf cJ kd pi2 bd af2 bo)) t) A) #[(.ref r0 : Value), (.int w : Value)] s 0 0 A) := ⟨_, rfl⟩
  obtain ⟨RES, hRES⟩ : ∃ y, y = (xc_moveLink ov go gq gw w) := ⟨_, rfl⟩
  have hQ : QQ L kd tag xl pi ol L kd tag xl pi ol [] [] 0 0 := QQ_rf
  -- from the entry
  have hE := hRES
  unfold xc_moveLink at hE
  refine lv_aload_n hx hb dX7_moveLink_0 rfl (lv_at hl 0 rfl) ?_
  refine va_get (D := D) (ci := 7) (v := va_rf ol) (C := RX7) (T := TX7) (N := 15) hx hb ha inlX7 hown hK hP 0 rfl rfl 4 (by decide) (ha _ kf_X7_54) (fun _ h9 => h9) rfl dX7_moveLink_1 ?_
  cases ol with
  | none =>
    have hP : va_P D vwCl ([(r0, rdC ov .null r1 r2 r3 r4 r5), (r1, chC cf cl zn 0), (r2, chC cf cl zn 1), (r3, chC cf cl zn 2), (r4, chC cf cl zn 3)] ++ va_pl L (pf cJ kd pi bd af bo)) _ := hP
    have hD : va_D A ([(r0, rdC ov .null r1 r2 r3 r4 r5), (r1, chC cf cl zn 0), (r2, chC cf cl zn 1), (r3, chC cf cl zn 2), (r4, chC cf cl zn 3)] ++ va_pl L (pf cJ kd pi bd af bo)) := hD
    have hE := om_none (show go = none from hG.1.symm) hE
    refine lv_astore_nN (lv' := [(2, .null), (0, .ref r0), (1, .int w)]) hx hb dX7_moveLink_4 rfl hl (by decide) rfl (fun ls hl => ?_)
    refine lv_aload_nN hx hb dX7_moveLink_5 rfl (lv_at hl 0 rfl) ?_
    refine lv_ifnullN (tgt := 17) hx hb dX7_moveLink_6 (by decide) ?_
    have hP9 : va_P D vwCl ([(r0, rdC ov (va_rf none) r1 r2 r3 r4 r5), (r1, chC cf cl zn 0), (r2, chC cf cl zn 1), (r3, chC cf cl zn 2), (r4, chC cf cl zn 3)] ++ va_pl L (pf cJ kd pi bd af bo)) _ := hP
    have hD9 : va_D A ([(r0, rdC ov (va_rf none) r1 r2 r3 r4 r5), (r1, chC cf cl zn 0), (r2, chC cf cl zn 1), (r3, chC cf cl zn 2), (r4, chC cf cl zn 3)] ++ va_pl L (pf cJ kd pi bd af bo)) := hD
    exact W.vret hx hb hr (fun t ht hW => ⟨⟨(), rfl, trivial, ⟨none, cf, cl, zn, xl, tag, pi, af, [], go, gq, gw, ⟨⟨hR, hPB, hZ, Or.inl rfl, hQ⟩, ⟨hG, hJ⟩, (by rw [← hRES, hE]), (by rw [← hRES, hE]), (by rw [← hRES, hE])⟩, by rw [ht]; exact hP9, va_K.moved hW.alike hK, hD9⟩⟩, hS.F ht⟩) hS.2.2 dX7_moveLink_17
  | some z_42 =>
    have hP : va_P D vwCl ([(r0, rdC ov (.ref z_42) r1 r2 r3 r4 r5), (r1, chC cf cl zn 0), (r2, chC cf cl zn 1), (r3, chC cf cl zn 2), (r4, chC cf cl zn 3)] ++ va_pl L (pf cJ kd pi bd af bo)) _ := hP
    have hD : va_D A ([(r0, rdC ov (.ref z_42) r1 r2 r3 r4 r5), (r1, chC cf cl zn 0), (r2, chC cf cl zn 1), (r3, chC cf cl zn 2), (r4, chC cf cl zn 3)] ++ va_pl L (pf cJ kd pi bd af bo)) := hD
    have hE := om_some (show go = some (cs pi z_42) from hG.1.symm) hE
    have m_z_42 := (hR.2 z_42 rfl).1
    have k_z_42 := (hR.2 z_42 rfl).2.1
    refine lv_astore_n (lv' := [(2, .ref z_42), (0, .ref r0), (1, .int w)]) hx hb dX7_moveLink_4 rfl hl (by decide) rfl (fun ls hl => ?_)
    refine lv_aload_n hx hb dX7_moveLink_5 rfl (lv_at hl 0 rfl) ?_
    refine lv_ifnull hx hb dX7_moveLink_6 ?_
    refine lv_aload_n hx hb dX7_moveLink_9 rfl (lv_at hl 0 rfl) ?_
    obtain ⟨k_43, hk_43⟩ := va_pl_get (X := [(r0, rdC ov (.ref z_42) r1 r2 r3 r4 r5), (r1, chC cf cl zn 0), (r2, chC cf cl zn 1), (r3, chC cf cl zn 2), (r4, chC cf cl zn 3)]) (f := pf cJ kd pi bd af bo) m_z_42
    refine va_getN (D := D) (ci := 5) (v := .int (pi 0 z_42)) (C := RX5) (T := TX5) (N := 7) hx hb ha inlX5 hown hK hP k_43 (hk_43.trans (congrArg (fun z => some (z_42, z)) (pf_p k_z_42))) rfl 0 (by decide) (va_Nw.use rfl (hN.f RX7 58 "CongestionBench$Parcel" "due" "I" "CongestionBench" (by decide +kernel))) (fun _ h9 => h9) rfl dX7_moveLink_10 ?_
    refine lv_topi (fun x_44 ex_44 => ?_)
    have hE := bd_at ex_44 hE
    refine lv_iload_n hx hb dX7_moveLink_13 rfl (lv_at hl 2 rfl) ?_
    refine lv_icmp_eq (tgt := 18) hx hb dX7_moveLink_14 (by decide) (fun c_45 => ?_) (fun c_45 => ?_)
    · have hE := hE.trans (if_pos c_45)
      have o_z_42 := QQ_o hQ (q := z_42) (by rw [(hR.2 z_42 rfl).2.2]; decide)
      have hQ := QQ_off hQ
      have hG := (GG_off hG).1
      obtain ⟨pi0, hpi0⟩ : ∃ y, y = pi := ⟨_, rfl⟩
      have p1_z_42 : pi 1 z_42 = pi0 1 z_42 := by rw [hpi0]
      have p2_z_42 : pi 2 z_42 = pi0 2 z_42 := by rw [hpi0]
      have p3_z_42 : pi 3 z_42 = pi0 3 z_42 := by rw [hpi0]
      rw [← hpi0] at hE
      have hR := (RI_off hR).1
      have t_z_42 := (va_up_self tag z_42 6)
      generalize g_46 : va_up tag z_42 6 = tag at hR hQ t_z_42
      refine lv_aload_n hx hb dX7_moveLink_18 rfl (lv_at hl 0 rfl) ?_
      refine lv_iload_n hx hb dX7_moveLink_19 rfl (lv_at hl 2 rfl) ?_
      refine lv_aload_n hx hb dX7_moveLink_20 rfl (lv_at hl 1 rfl) ?_
      refine va_get (D := D) (ci := 7) (v := .int (ov 2)) (C := RX7) (T := TX7) (N := 15) hx hb ha inlX7 hown hK hP 0 rfl rfl 2 (by decide) (ha _ kf_X7_18) (fun _ h9 => h9) rfl dX7_moveLink_21 ?_
      refine lv_topi (fun x_47 ex_47 => ?_)
      have hE := bd_at ex_47 hE
      refine lv_iadd hx hb dX7_moveLink_24 ?_
      refine lv_topi (fun x_48 ex_48 => ?_)
      have hE := bd_at ex_48 hE
      obtain ⟨k_49, hk_49⟩ := va_pl_get (X := [(r0, rdC ov (.ref z_42) r1 r2 r3 r4 r5), (r1, chC cf cl zn 0), (r2, chC cf cl zn 1), (r3, chC cf cl zn 2), (r4, chC cf cl zn 3)]) (f := pf cJ kd pi bd af bo) m_z_42
      refine va_putN (D := D) (ci := 5) (v := .int x_48) (ty := .int) (C := RX5) (T := TX5) (N := 7) hx hb ha inlX5 tyX5 tyX5_ok nmX5 hown hK hP hD hS k_49 (hk_49.trans (congrArg (fun z => some (z_42, z)) (pf_p k_z_42))) rfl 0 (by decide) (va_Nw.use rfl (hN.f RX7 58 "CongestionBench$Parcel" "due" "I" "CongestionBench" (by decide +kernel))) (fun _ h9 => h9) rfl (by decide +kernel) rfl rfl (Nat.le_of_ble_eq_true rfl) dX7_moveLink_25 (fun H locs hP1 hD1 hS => ?_)
      have hP : va_P D vwCl ([(r0, rdC ov (.ref z_42) r1 r2 r3 r4 r5), (r1, chC cf cl zn 0), (r2, chC cf cl zn 1), (r3, chC cf cl zn 2), (r4, chC cf cl zn 3)] ++ va_pl L (pf cJ kd (upp pi 0 z_42 x_48) bd af bo)) H := by rw [← pf_u0 k_z_42, ← va_pl_set hD m_z_42 hk_49]; exact hP1
      have hD : va_D A ([(r0, rdC ov (.ref z_42) r1 r2 r3 r4 r5), (r1, chC cf cl zn 0), (r2, chC cf cl zn 1), (r3, chC cf cl zn 2), (r4, chC cf cl zn 3)] ++ va_pl L (pf cJ kd (upp pi 0 z_42 x_48) bd af bo)) := by rw [← pf_u0 k_z_42, ← va_pl_set hD m_z_42 hk_49]; exact hD1
      have hPB := PB_due (k := 0) (a := z_42) (x := x_48) hPB (by decide)
      have hQ := QQ_pi (k := 0) (q := z_42) (x := x_48) hQ hR t_z_42
      have hG := GG_pi (k := 0) (z := z_42) (x := x_48) hG hR t_z_42
      generalize g_50 : upp pi 0 z_42 x_48 = pi at hP hD hPB hQ hG
      have p1_z_42 : pi 1 z_42 = pi0 1 z_42 := by rw [← g_50]; exact (upp_ne (by decide)).trans p1_z_42
      have p2_z_42 : pi 2 z_42 = pi0 2 z_42 := by rw [← g_50]; exact (upp_ne (by decide)).trans p2_z_42
      have p3_z_42 : pi 3 z_42 = pi0 3 z_42 := by rw [← g_50]; exact (upp_ne (by decide)).trans p3_z_42
      have p0_z_42 : pi 0 z_42 = x_48 := by rw [← g_50]; exact upp_eq
      have p_z_42 := p0_z_42
      refine lv_aload_n hx hb dX7_moveLink_28 rfl (lv_at hl 1 rfl) ?_
      refine va_get (D := D) (ci := 7) (v := .ref r2) (C := RX7) (T := TX7) (N := 15) hx hb ha inlX7 hown hK hP 0 rfl rfl 6 (by decide) (ha _ kf_X7_31) (fun _ h9 => h9) rfl dX7_moveLink_29 ?_
      refine lv_aload_n hx hb dX7_moveLink_32 rfl (lv_at hl 0 rfl) ?_
      have hPc := hP.part (X := [(r0, rdC ov (.ref z_42) r1 r2 r3 r4 r5), (r1, chC cf cl zn 0), (r2, chC cf cl zn 1), (r3, chC cf cl zn 2), (r4, chC cf cl zn 3)]) (cx := [(r2, chC cf cl zn 1)]) (pl := va_pl L (pf cJ kd pi bd af bo)) [2] rfl
      have hDc := hD.part (X := [(r0, rdC ov (.ref z_42) r1 r2 r3 r4 r5), (r1, chC cf cl zn 0), (r2, chC cf cl zn 1), (r3, chC cf cl zn 2), (r4, chC cf cl zn 3)]) (cx := [(r2, chC cf cl zn 1)]) (pl := va_pl L (pf cJ kd pi bd af bo)) [2] (by decide) rfl
      have hFc := va_freeP (X := [(r0, rdC ov (.ref z_42) r1 r2 r3 r4 r5), (r1, chC cf cl zn 0), (r2, chC cf cl zn 1), (r3, chC cf cl zn 2), (r4, chC cf cl zn 3)]) (cx := [(r2, chC cf cl zn 1)]) (pl := va_pl L (pf cJ kd pi bd af bo)) hD hS hA [2] rfl
      refine va_callv (va_runV (As := [.ref z_42]) (rest := []) ⟨hx, hb, hml, hown, ha⟩ (s_putByDue l D cI cJ cZ cO _ r2 z_42 L kd pi bd af bo (cf 1) (cl 1) (zn 1) (xl 1) m_z_42 k_z_42 (hR.1 1 (by decide)).1 (RI_mem hR (by decide)) (hR.1 1 (by decide)).2.1 (RI_notin hR (by decide) t_z_42)) (cwV 1 ha (gaV kl_X7_63 km_X1_putByDue ks_X1_putByDue kz_X1 kd_X1_putByDue) rfl rfl rfl (by decide +kernel) ⟨Nat.le_of_ble_eq_true rfl, Nat.le_of_ble_eq_true rfl⟩) ⟨pw_blind, va_recv hK hPc (ci := 1) (q0 := 0) rfl rfl, fun U hU hW => ⟨rfl, pw_start hU hW hPc hK hDc hN⟩⟩ rfl rfl hl.1 rfl (lv_room (Nat.le_of_ble_eq_true rfl)) dX7_moveLink_33 ⟨Nat.le_of_ble_eq_true rfl, Nat.le_of_ble_eq_true rfl⟩) hS (fun q _ h => hFc q h) hFc (fun u t H1 locs ht hvm hw hB hz1 hk1 hS => ?_)
      obtain ⟨q_52, q_53, q_54, q_55, q_56, hf_57, hP1, hK1, hD1⟩ := hB
      rw [ht] at hP1
      obtain ⟨hP, hD⟩ := va_joinP (wr := [(r0, rdC ov (.ref z_42) r1 r2 r3 r4 r5), (r1, chC cf cl zn 0), (r3, chC cf cl zn 2), (r4, chC cf cl zn 3)]) (rx := [(r2, .inr (1, [va_rf q_52, va_rf q_53, .int ((zn 1) + 1)]))]) (pl1 := va_pl L (pf cJ kd pi bd q_54 bo)) hP hD [2] [0, 1, 3, 4] rfl rfl (by decide) (by decide) hk1 hFc hP1 hD1
      generalize H1 = H at hP hS ⊢
      have hP : va_P D vwCl ([(r0, rdC ov (.ref z_42) r1 r2 r3 r4 r5), (r1, chC cf cl zn 0), (r3, chC cf cl zn 2), (r4, chC cf cl zn 3), (r2, .inr (1, [va_rf q_52, va_rf q_53, .int ((zn 1) + 1)]))] ++ va_pl L (pf cJ kd pi bd q_54 bo)) H := hP
      have hD : va_D A ([(r0, rdC ov (.ref z_42) r1 r2 r3 r4 r5), (r1, chC cf cl zn 0), (r3, chC cf cl zn 2), (r4, chC cf cl zn 3), (r2, .inr (1, [va_rf q_52, va_rf q_53, .int ((zn 1) + 1)]))] ++ va_pl L (pf cJ kd pi bd q_54 bo)) := hD
      refine W.widen (k := 0) (n := 0) (Nat.le_of_ble_eq_true rfl) (Nat.le_of_ble_eq_true rfl) ?_
      have hZ := ZN_put (q := z_42) hZ (by decide) hf_57.1
      have hG := GG_put1 hG (hQ.2.1.2 hS1) hf_57.1 hf_57.2.2.2
      rw [show cs pi z_42 = (x_48, (cs pi0 z_42).2) by unfold cs; rw [p0_z_42, p1_z_42, p2_z_42, p3_z_42]] at hG
      generalize hgh_58 : insS (x_48, (cs pi0 z_42).2) gw = gw at hG
      have hE := bs_at hgh_58 hE
      have hQ := QQ_put1 hQ o_z_42 hf_57.1 ⟨hf_57.2.2.2.1, fun c hc => Int32.le_of_lt (hf_57.2.2.2.2 c hc)⟩
      rw [p_z_42, ex_48, ex_47] at hQ
      have hR := RI_put hR (by decide) m_z_42 k_z_42 t_z_42 ⟨hf_57.1, hf_57.2.1, hf_57.2.2.1⟩
      have hP : va_P D vwCl ([(r0, rdC ov (.ref z_42) r1 r2 r3 r4 r5), (r1, .inr (1, [va_rf (va_up cf 1 q_52 0), va_rf (va_up cl 1 q_53 0), .int (va_up zn 1 (zn 1 + 1) 0)])), (r3, .inr (1, [va_rf (va_up cf 1 q_52 2), va_rf (va_up cl 1 q_53 2), .int (va_up zn 1 (zn 1 + 1) 2)])), (r4, .inr (1, [va_rf (va_up cf 1 q_52 3), va_rf (va_up cl 1 q_53 3), .int (va_up zn 1 (zn 1 + 1) 3)])), (r2, .inr (1, [va_rf (va_up cf 1 q_52 1), va_rf (va_up cl 1 q_53 1), .int (va_up zn 1 (zn 1 + 1) 1)]))] ++ va_pl L (pf cJ kd pi bd q_54 bo)) H := hP
      have hD : va_D A ([(r0, rdC ov (.ref z_42) r1 r2 r3 r4 r5), (r1, .inr (1, [va_rf (va_up cf 1 q_52 0), va_rf (va_up cl 1 q_53 0), .int (va_up zn 1 (zn 1 + 1) 0)])), (r3, .inr (1, [va_rf (va_up cf 1 q_52 2), va_rf (va_up cl 1 q_53 2), .int (va_up zn 1 (zn 1 + 1) 2)])), (r4, .inr (1, [va_rf (va_up cf 1 q_52 3), va_rf (va_up cl 1 q_53 3), .int (va_up zn 1 (zn 1 + 1) 3)])), (r2, .inr (1, [va_rf (va_up cf 1 q_52 1), va_rf (va_up cl 1 q_53 1), .int (va_up zn 1 (zn 1 + 1) 1)]))] ++ va_pl L (pf cJ kd pi bd q_54 bo)) := hD
      generalize g_59 : va_up cf 1 q_52 = cf at hP hD hR
      generalize g_60 : va_up cl 1 q_53 = cl at hP hD hR
      generalize g_61 : va_up zn 1 (zn 1 + 1) = zn at hP hD hZ
      generalize g_62 : va_up xl 1 (q_55 ++ z_42 :: q_56) = xl at hR hZ hQ hG
      generalize g_63 : va_up tag z_42 1 = tag at hR hQ
      refine lv_aload_n hx hb dX7_moveLink_36 rfl (lv_at hl 1 rfl) ?_
      refine va_get (D := D) (ci := 7) (v := .ref r1) (C := RX7) (T := TX7) (N := 15) hx hb ha inlX7 hown hK hP 0 rfl rfl 5 (by decide) (ha _ kf_X7_27) (fun _ h9 => h9) rfl dX7_moveLink_37 ?_
      have hR0 := hR
      have hPc := hP.part (X := [(r0, rdC ov (.ref z_42) r1 r2 r3 r4 r5), (r1, chC cf cl zn 0), (r3, chC cf cl zn 2), (r4, chC cf cl zn 3), (r2, chC cf cl zn 1)]) (cx := [(r1, chC cf cl zn 0)]) (pl := va_pl L (pf cJ kd pi bd q_54 bo)) [1] rfl
      have hDc := hD.part (X := [(r0, rdC ov (.ref z_42) r1 r2 r3 r4 r5), (r1, chC cf cl zn 0), (r3, chC cf cl zn 2), (r4, chC cf cl zn 3), (r2, chC cf cl zn 1)]) (cx := [(r1, chC cf cl zn 0)]) (pl := va_pl L (pf cJ kd pi bd q_54 bo)) [1] (by decide) rfl
      have hFc := va_freeP (X := [(r0, rdC ov (.ref z_42) r1 r2 r3 r4 r5), (r1, chC cf cl zn 0), (r3, chC cf cl zn 2), (r4, chC cf cl zn 3), (r2, chC cf cl zn 1)]) (cx := [(r1, chC cf cl zn 0)]) (pl := va_pl L (pf cJ kd pi bd q_54 bo)) hD hS hA [1] rfl
      refine va_callq (va_runV (As := []) (rest := []) ⟨hx, hb, hml, hown, ha⟩ (s_takeFirst l D cI cJ cZ cO _ r1 L kd pi bd q_54 bo (cf 0) (cl 0) (zn 0) (RI_fi hR (by decide)) (RI_cl hR (by decide))) (cwV 0 ha (gaV kl_X7_67 km_X1_takeFirst ks_X1_takeFirst kz_X1 kd_X1_takeFirst) rfl rfl rfl (by decide +kernel) ⟨Nat.le_of_ble_eq_true rfl, Nat.le_of_ble_eq_true rfl⟩) ⟨pw_blind, va_recv hK hPc (ci := 1) (q0 := 0) rfl rfl, fun U hU hW => ⟨rfl, pw_start hU hW hPc hK hDc hN⟩⟩ rfl rfl hl.1 rfl (lv_room (Nat.le_of_ble_eq_true rfl)) dX7_moveLink_40 ⟨Nat.le_of_ble_eq_true rfl, Nat.le_of_ble_eq_true rfl⟩) hS (fun q _ h => hFc q h) hFc (fun r_64 u t H1 locs ht hvm hw hB hz1 hk1 hS => ?_)
      obtain ⟨hP1, hK1, hD1⟩ := hB
      rw [ht] at hP1
      obtain ⟨hP, hD⟩ := va_joinP (wr := [(r0, rdC ov (.ref z_42) r1 r2 r3 r4 r5), (r3, chC cf cl zn 2), (r4, chC cf cl zn 3), (r2, chC cf cl zn 1)]) (rx := [(r1, .inr (1, [va_rf (tk_fi q_54 (cf 0)), va_rf (tk_la q_54 (cf 0) (cl 0)), .int (tk_n (cf 0) (zn 0))]))]) (pl1 := va_pl L (pf cJ kd pi bd (tk_af q_54 (cf 0)) bo)) hP hD [1] [0, 2, 3, 4] rfl rfl (by decide) (by decide) hk1 hFc hP1 hD1
      generalize H1 = H at hP hS ⊢
      have hP : va_P D vwCl ([(r0, rdC ov (.ref z_42) r1 r2 r3 r4 r5), (r3, chC cf cl zn 2), (r4, chC cf cl zn 3), (r2, chC cf cl zn 1), (r1, .inr (1, [va_rf (tk_fi q_54 (cf 0)), va_rf (tk_la q_54 (cf 0) (cl 0)), .int (tk_n (cf 0) (zn 0))]))] ++ va_pl L (pf cJ kd pi bd (tk_af q_54 (cf 0)) bo)) H := hP
      have hD : va_D A ([(r0, rdC ov (.ref z_42) r1 r2 r3 r4 r5), (r3, chC cf cl zn 2), (r4, chC cf cl zn 3), (r2, chC cf cl zn 1), (r1, .inr (1, [va_rf (tk_fi q_54 (cf 0)), va_rf (tk_la q_54 (cf 0) (cl 0)), .int (tk_n (cf 0) (zn 0))]))] ++ va_pl L (pf cJ kd pi bd (tk_af q_54 (cf 0)) bo)) := hD
      refine W.widen (k := 0) (n := 0) (Nat.le_of_ble_eq_true rfl) (Nat.le_of_ble_eq_true rfl) ?_
      obtain rfl : (cf 0) = r_64 := (hw).symm
      have hZ := ZN_tk hZ hR (j := 0) (by decide)
      have hR := RI_tk hR (i := 0) (by decide)
      cases ho_66 : cf 0 with
      | none =>
        rw [ho_66] at hR hZ hP hD
        have hQ := QQ_tkn0 hQ hR0 ho_66
        obtain ⟨hG, hgq⟩ := GG_tkn0 hG (RI_none hR0 (by decide) ho_66)
        have hE := lm_nil hgq hE
        have hP : va_P D vwCl ([(r0, rdC ov (.ref z_42) r1 r2 r3 r4 r5), (r3, .inr (1, [va_rf (va_up cf 0 (tk_fi q_54 none) 2), va_rf (va_up cl 0 (tk_la q_54 none (cl 0)) 2), .int (va_up zn 0 (tk_n none (zn 0)) 2)])), (r4, .inr (1, [va_rf (va_up cf 0 (tk_fi q_54 none) 3), va_rf (va_up cl 0 (tk_la q_54 none (cl 0)) 3), .int (va_up zn 0 (tk_n none (zn 0)) 3)])), (r2, .inr (1, [va_rf (va_up cf 0 (tk_fi q_54 none) 1), va_rf (va_up cl 0 (tk_la q_54 none (cl 0)) 1), .int (va_up zn 0 (tk_n none (zn 0)) 1)])), (r1, .inr (1, [va_rf (va_up cf 0 (tk_fi q_54 none) 0), va_rf (va_up cl 0 (tk_la q_54 none (cl 0)) 0), .int (va_up zn 0 (tk_n none (zn 0)) 0)]))] ++ va_pl L (pf cJ kd pi bd (tk_af q_54 none) bo)) H := hP
        have hD : va_D A ([(r0, rdC ov (.ref z_42) r1 r2 r3 r4 r5), (r3, .inr (1, [va_rf (va_up cf 0 (tk_fi q_54 none) 2), va_rf (va_up cl 0 (tk_la q_54 none (cl 0)) 2), .int (va_up zn 0 (tk_n none (zn 0)) 2)])), (r4, .inr (1, [va_rf (va_up cf 0 (tk_fi q_54 none) 3), va_rf (va_up cl 0 (tk_la q_54 none (cl 0)) 3), .int (va_up zn 0 (tk_n none (zn 0)) 3)])), (r2, .inr (1, [va_rf (va_up cf 0 (tk_fi q_54 none) 1), va_rf (va_up cl 0 (tk_la q_54 none (cl 0)) 1), .int (va_up zn 0 (tk_n none (zn 0)) 1)])), (r1, .inr (1, [va_rf (va_up cf 0 (tk_fi q_54 none) 0), va_rf (va_up cl 0 (tk_la q_54 none (cl 0)) 0), .int (va_up zn 0 (tk_n none (zn 0)) 0)]))] ++ va_pl L (pf cJ kd pi bd (tk_af q_54 none) bo)) := hD
        generalize g_67 : va_up cf 0 (tk_fi q_54 none) = cf at hP hD hR
        generalize g_68 : va_up cl 0 (tk_la q_54 none (cl 0)) = cl at hP hD hR
        generalize g_69 : va_up zn 0 (tk_n none (zn 0)) = zn at hP hD hZ
        generalize g_70 : va_up xl 0 (xl 0).tail = xl at hR hZ hQ hG
        generalize g_71 : tk_tag tag none = tag at hR hQ
        generalize (tk_af q_54 none) = af at hP hD hR
        refine lv_astore_nN (lv' := [(3, .null), (2, .ref z_42), (0, .ref r0), (1, .int w)]) hx hb dX7_moveLink_43 rfl hl (by decide) rfl (fun ls hl => ?_)
        refine lv_aload_nN hx hb dX7_moveLink_44 rfl (lv_at hl 0 rfl) ?_
        refine lv_ifnullN (tgt := 58) hx hb dX7_moveLink_45 (by decide) ?_
        refine lv_aload_n hx hb dX7_moveLink_58 rfl (lv_at hl 2 rfl) ?_
        refine lv_aload_nN hx hb dX7_moveLink_59 rfl (lv_at hl 0 rfl) ?_
        refine va_put (D := D) (ci := 7) (v := .null) (ty := .object "CongestionBench$Parcel") (C := RX7) (T := TX7) (N := 15) hx hb ha inlX7 tyX7 tyX7_ok nmX7 hown hK hP hD hS 0 rfl rfl 4 (by decide) (ha _ kf_X7_54) (fun _ h9 => h9) rfl (by decide +kernel) rfl rfl (Nat.le_of_ble_eq_true rfl) dX7_moveLink_60 (fun H locs hP hD hS => ?_)
        have hP : va_P D vwCl ([(r0, rdC ov .null r1 r2 r3 r4 r5), (r3, chC cf cl zn 2), (r4, chC cf cl zn 3), (r2, chC cf cl zn 1), (r1, chC cf cl zn 0)] ++ va_pl L (pf cJ kd pi bd af bo)) H := hP
        have hD : va_D A ([(r0, rdC ov .null r1 r2 r3 r4 r5), (r3, chC cf cl zn 2), (r4, chC cf cl zn 3), (r2, chC cf cl zn 1), (r1, chC cf cl zn 0)] ++ va_pl L (pf cJ kd pi bd af bo)) := hD
        have hP9 : va_P D vwCl ([(r0, rdC ov (va_rf none) r1 r2 r3 r4 r5), (r1, chC cf cl zn 0), (r2, chC cf cl zn 1), (r3, chC cf cl zn 2), (r4, chC cf cl zn 3)] ++ va_pl L (pf cJ kd pi bd af bo)) _ := hP.part [0, 4, 3, 1, 2] rfl
        have hD9 : va_D A ([(r0, rdC ov (va_rf none) r1 r2 r3 r4 r5), (r1, chC cf cl zn 0), (r2, chC cf cl zn 1), (r3, chC cf cl zn 2), (r4, chC cf cl zn 3)] ++ va_pl L (pf cJ kd pi bd af bo)) := hD.part [0, 4, 3, 1, 2] (by decide) rfl
        exact W.vret hx hb hr (fun t ht hW => ⟨⟨(), rfl, trivial, ⟨none, cf, cl, zn, xl, tag, pi, af, [w + ov 2], none, gq, gw, ⟨⟨hR, hPB, hZ, Or.inr rfl, hQ⟩, ⟨hG, hJ⟩, (by rw [← hRES, hE]), (by rw [← hRES, hE]), (by rw [← hRES, hE])⟩, by rw [ht]; exact hP9, va_K.moved hW.alike hK, hD9⟩⟩, hS.F ht⟩) hS.2.2 dX7_moveLink_63
      | some z_65 =>
        rw [ho_66] at hR hZ hP hD
        have m_z_65 := (RI_hd hR0 (i := 0) (by decide) ho_66).1
        have k_z_65 := (RI_hd hR0 (i := 0) (by decide) ho_66).2.1
        have t_z_65 := (show tk_tag tag (some z_65) z_65 = 6 from va_up_self tag z_65 6)
        have o_z_65 := QQ_o hQ (q := z_65) (by rw [RI_tg hR0 (i := 0) (by decide) ho_66]; decide)
        have hQ := QQ_tks0 hQ hR0 ho_66
        obtain ⟨t_l, e1⟩ := (RI_hd hR0 (i := 0) (by decide) ho_66).2.2
        obtain ⟨hG, hgq⟩ := GG_tks0 hG e1
        have hE := lm_cons hgq hE
        generalize hgh_72 : gq.tail = gq at hG hE
        have hE := bd_at rfl hE
        obtain ⟨pi1, hpi1⟩ : ∃ y, y = pi := ⟨_, rfl⟩
        have p1_z_65 : pi 1 z_65 = pi1 1 z_65 := by rw [hpi1]
        have p2_z_65 : pi 2 z_65 = pi1 2 z_65 := by rw [hpi1]
        have p3_z_65 : pi 3 z_65 = pi1 3 z_65 := by rw [hpi1]
        rw [← hpi1] at hE
        have hP : va_P D vwCl ([(r0, rdC ov (.ref z_42) r1 r2 r3 r4 r5), (r3, .inr (1, [va_rf (va_up cf 0 (tk_fi q_54 (some z_65)) 2), va_rf (va_up cl 0 (tk_la q_54 (some z_65) (cl 0)) 2), .int (va_up zn 0 (tk_n (some z_65) (zn 0)) 2)])), (r4, .inr (1, [va_rf (va_up cf 0 (tk_fi q_54 (some z_65)) 3), va_rf (va_up cl 0 (tk_la q_54 (some z_65) (cl 0)) 3), .int (va_up zn 0 (tk_n (some z_65) (zn 0)) 3)])), (r2, .inr (1, [va_rf (va_up cf 0 (tk_fi q_54 (some z_65)) 1), va_rf (va_up cl 0 (tk_la q_54 (some z_65) (cl 0)) 1), .int (va_up zn 0 (tk_n (some z_65) (zn 0)) 1)])), (r1, .inr (1, [va_rf (va_up cf 0 (tk_fi q_54 (some z_65)) 0), va_rf (va_up cl 0 (tk_la q_54 (some z_65) (cl 0)) 0), .int (va_up zn 0 (tk_n (some z_65) (zn 0)) 0)]))] ++ va_pl L (pf cJ kd pi bd (tk_af q_54 (some z_65)) bo)) H := hP
        have hD : va_D A ([(r0, rdC ov (.ref z_42) r1 r2 r3 r4 r5), (r3, .inr (1, [va_rf (va_up cf 0 (tk_fi q_54 (some z_65)) 2), va_rf (va_up cl 0 (tk_la q_54 (some z_65) (cl 0)) 2), .int (va_up zn 0 (tk_n (some z_65) (zn 0)) 2)])), (r4, .inr (1, [va_rf (va_up cf 0 (tk_fi q_54 (some z_65)) 3), va_rf (va_up cl 0 (tk_la q_54 (some z_65) (cl 0)) 3), .int (va_up zn 0 (tk_n (some z_65) (zn 0)) 3)])), (r2, .inr (1, [va_rf (va_up cf 0 (tk_fi q_54 (some z_65)) 1), va_rf (va_up cl 0 (tk_la q_54 (some z_65) (cl 0)) 1), .int (va_up zn 0 (tk_n (some z_65) (zn 0)) 1)])), (r1, .inr (1, [va_rf (va_up cf 0 (tk_fi q_54 (some z_65)) 0), va_rf (va_up cl 0 (tk_la q_54 (some z_65) (cl 0)) 0), .int (va_up zn 0 (tk_n (some z_65) (zn 0)) 0)]))] ++ va_pl L (pf cJ kd pi bd (tk_af q_54 (some z_65)) bo)) := hD
        generalize g_73 : va_up cf 0 (tk_fi q_54 (some z_65)) = cf at hP hD hR
        generalize g_74 : va_up cl 0 (tk_la q_54 (some z_65) (cl 0)) = cl at hP hD hR
        generalize g_75 : va_up zn 0 (tk_n (some z_65) (zn 0)) = zn at hP hD hZ
        generalize g_76 : va_up xl 0 (xl 0).tail = xl at hR hZ hQ hG
        generalize g_77 : tk_tag tag (some z_65) = tag at hR hQ t_z_65
        generalize (tk_af q_54 (some z_65)) = af at hP hD hR
        refine lv_astore_n (lv' := [(3, .ref z_65), (2, .ref z_42), (0, .ref r0), (1, .int w)]) hx hb dX7_moveLink_43 rfl hl (by decide) rfl (fun ls hl => ?_)
        refine lv_aload_n hx hb dX7_moveLink_44 rfl (lv_at hl 0 rfl) ?_
        refine lv_ifnull hx hb dX7_moveLink_45 ?_
        refine lv_aload_n hx hb dX7_moveLink_48 rfl (lv_at hl 0 rfl) ?_
        refine lv_iload_n hx hb dX7_moveLink_49 rfl (lv_at hl 3 rfl) ?_
        refine lv_aload_n hx hb dX7_moveLink_50 rfl (lv_at hl 2 rfl) ?_
        refine va_get (D := D) (ci := 7) (v := .int (ov 0)) (C := RX7) (T := TX7) (N := 15) hx hb ha inlX7 hown hK hP 0 rfl rfl 0 (by decide) (ha _ kf_X7_9) (fun _ h9 => h9) rfl dX7_moveLink_51 ?_
        refine lv_topi (fun x_78 ex_78 => ?_)
        have hE := bd_at ex_78 hE
        refine lv_iadd hx hb dX7_moveLink_54 ?_
        refine lv_topi (fun x_79 ex_79 => ?_)
        have hE := bd_at ex_79 hE
        obtain ⟨k_80, hk_80⟩ := va_pl_get (X := [(r0, rdC ov (.ref z_42) r1 r2 r3 r4 r5), (r3, chC cf cl zn 2), (r4, chC cf cl zn 3), (r2, chC cf cl zn 1), (r1, chC cf cl zn 0)]) (f := pf cJ kd pi bd af bo) m_z_65
        refine va_putN (D := D) (ci := 5) (v := .int x_79) (ty := .int) (C := RX5) (T := TX5) (N := 7) hx hb ha inlX5 tyX5 tyX5_ok nmX5 hown hK hP hD hS k_80 (hk_80.trans (congrArg (fun z => some (z_65, z)) (pf_p k_z_65))) rfl 0 (by decide) (va_Nw.use rfl (hN.f RX7 58 "CongestionBench$Parcel" "due" "I" "CongestionBench" (by decide +kernel))) (fun _ h9 => h9) rfl (by decide +kernel) rfl rfl (Nat.le_of_ble_eq_true rfl) dX7_moveLink_55 (fun H locs hP1 hD1 hS => ?_)
        have hP : va_P D vwCl ([(r0, rdC ov (.ref z_42) r1 r2 r3 r4 r5), (r3, chC cf cl zn 2), (r4, chC cf cl zn 3), (r2, chC cf cl zn 1), (r1, chC cf cl zn 0)] ++ va_pl L (pf cJ kd (upp pi 0 z_65 x_79) bd af bo)) H := by rw [← pf_u0 k_z_65, ← va_pl_set hD m_z_65 hk_80]; exact hP1
        have hD : va_D A ([(r0, rdC ov (.ref z_42) r1 r2 r3 r4 r5), (r3, chC cf cl zn 2), (r4, chC cf cl zn 3), (r2, chC cf cl zn 1), (r1, chC cf cl zn 0)] ++ va_pl L (pf cJ kd (upp pi 0 z_65 x_79) bd af bo)) := by rw [← pf_u0 k_z_65, ← va_pl_set hD m_z_65 hk_80]; exact hD1
        have hPB := PB_due (k := 0) (a := z_65) (x := x_79) hPB (by decide)
        have hQ := QQ_pi (k := 0) (q := z_65) (x := x_79) hQ hR t_z_65
        have hG := GG_pi (k := 0) (z := z_65) (x := x_79) hG hR t_z_65
        generalize g_81 : upp pi 0 z_65 x_79 = pi at hP hD hPB hQ hG
        have p1_z_65 : pi 1 z_65 = pi1 1 z_65 := by rw [← g_81]; exact (upp_ne (by decide)).trans p1_z_65
        have p2_z_65 : pi 2 z_65 = pi1 2 z_65 := by rw [← g_81]; exact (upp_ne (by decide)).trans p2_z_65
        have p3_z_65 : pi 3 z_65 = pi1 3 z_65 := by rw [← g_81]; exact (upp_ne (by decide)).trans p3_z_65
        have p0_z_65 : pi 0 z_65 = x_79 := by rw [← g_81]; exact upp_eq
        have p_z_65 := p0_z_65
        refine lv_aload_n hx hb dX7_moveLink_58 rfl (lv_at hl 2 rfl) ?_
        refine lv_aload_n hx hb dX7_moveLink_59 rfl (lv_at hl 0 rfl) ?_
        refine va_put (D := D) (ci := 7) (v := .ref z_65) (ty := .object "CongestionBench$Parcel") (C := RX7) (T := TX7) (N := 15) hx hb ha inlX7 tyX7 tyX7_ok nmX7 hown hK hP hD hS 0 rfl rfl 4 (by decide) (ha _ kf_X7_54) (fun _ h9 => h9) rfl (by decide +kernel) rfl rfl (Nat.le_of_ble_eq_true rfl) dX7_moveLink_60 (fun H locs hP hD hS => ?_)
        have hP : va_P D vwCl ([(r0, rdC ov (.ref z_65) r1 r2 r3 r4 r5), (r3, chC cf cl zn 2), (r4, chC cf cl zn 3), (r2, chC cf cl zn 1), (r1, chC cf cl zn 0)] ++ va_pl L (pf cJ kd pi bd af bo)) H := hP
        have hD : va_D A ([(r0, rdC ov (.ref z_65) r1 r2 r3 r4 r5), (r3, chC cf cl zn 2), (r4, chC cf cl zn 3), (r2, chC cf cl zn 1), (r1, chC cf cl zn 0)] ++ va_pl L (pf cJ kd pi bd af bo)) := hD
        have hR := RI_on hR m_z_65 k_z_65 t_z_65
        have hQ := QQ_on hQ o_z_65
        generalize va_up tag z_65 5 = tag at hR hQ
        have hG := GG_on (z := z_65) hG
        rw [show cs pi z_65 = (x_79, cq pi1 z_65) by unfold cs cq; rw [p0_z_65, p1_z_65, p2_z_65, p3_z_65]] at hG
        generalize hgh_82 : (some (x_79, cq pi1 z_65) : Option S4) = go at hG
        have hE := bs_at hgh_82 hE
        have hP9 : va_P D vwCl ([(r0, rdC ov (va_rf (some z_65)) r1 r2 r3 r4 r5), (r1, chC cf cl zn 0), (r2, chC cf cl zn 1), (r3, chC cf cl zn 2), (r4, chC cf cl zn 3)] ++ va_pl L (pf cJ kd pi bd af bo)) _ := hP.part [0, 4, 3, 1, 2] rfl
        have hD9 : va_D A ([(r0, rdC ov (va_rf (some z_65)) r1 r2 r3 r4 r5), (r1, chC cf cl zn 0), (r2, chC cf cl zn 1), (r3, chC cf cl zn 2), (r4, chC cf cl zn 3)] ++ va_pl L (pf cJ kd pi bd af bo)) := hD.part [0, 4, 3, 1, 2] (by decide) rfl
        exact W.vret hx hb hr (fun t ht hW => ⟨⟨(), rfl, trivial, ⟨(some z_65), cf, cl, zn, xl, tag, pi, af, [w + ov 2], go, gq, gw, ⟨⟨hR, hPB, hZ, Or.inr rfl, hQ⟩, ⟨hG, hJ⟩, (by rw [← hRES, hE]), (by rw [← hRES, hE]), (by rw [← hRES, hE])⟩, by rw [ht]; exact hP9, va_K.moved hW.alike hK, hD9⟩⟩, hS.F ht⟩) hS.2.2 dX7_moveLink_63
    · have hE := hE.trans (if_neg c_45)
      have hP9 : va_P D vwCl ([(r0, rdC ov (va_rf (some z_42)) r1 r2 r3 r4 r5), (r1, chC cf cl zn 0), (r2, chC cf cl zn 1), (r3, chC cf cl zn 2), (r4, chC cf cl zn 3)] ++ va_pl L (pf cJ kd pi bd af bo)) _ := hP
      have hD9 : va_D A ([(r0, rdC ov (va_rf (some z_42)) r1 r2 r3 r4 r5), (r1, chC cf cl zn 0), (r2, chC cf cl zn 1), (r3, chC cf cl zn 2), (r4, chC cf cl zn 3)] ++ va_pl L (pf cJ kd pi bd af bo)) := hD
      exact W.vret hx hb hr (fun t ht hW => ⟨⟨(), rfl, trivial, ⟨(some z_42), cf, cl, zn, xl, tag, pi, af, [], go, gq, gw, ⟨⟨hR, hPB, hZ, Or.inl rfl, hQ⟩, ⟨hG, hJ⟩, (by rw [← hRES, hE]), (by rw [← hRES, hE]), (by rw [← hRES, hE])⟩, by rw [ht]; exact hP9, va_K.moved hW.alike hK, hD9⟩⟩, hS.F ht⟩) hS.2.2 dX7_moveLink_17

set_option maxHeartbeats 4000000 in
set_option maxRecDepth 100000 in
theorem law_case0 {p : Program} {e : Env} {s : State} {m : MethodId} {below : List Frame} {meth : Method} {c : Code} (l : Launch) {b L0 : Nat} {xs : Nat → Int32} (C0 : lw_At p s m meth c b L0 xs) (hL : L0 ≤ 2560) (D : va_G) (cI cJ cZ cO : ClassId) (hK : va_K D vwCl (pw_ty cI cJ cZ cO) s) (hN : nw s) (b0 m0 : Nat) (mq : Nat → Nat) (k : Nat) (hk : 5 * k + 5 ≤ L0) (hLP : LWP p l e s m below meth c D cI cJ cZ cO b b0 m0 mq (k + 1)) (n : Nat) (FX : Nat → Nat → Int32) (T : Nat) (nw : Int32) (ov tf : Nat → Int32) (FV : Nat → Nat → Nat → Int32) (FJ : Nat → Nat → Nat → Int64) (go : Option S4) (gq : List S3) (gw : List S4) (ga : List A6) (ws : va_W) (mi : Nat → Int32) (ma : Nat → Nat → Int32) (cl : Int) (H : Heap) (locs : List Loc) (hC : CWd cI cJ cO b0 n FX T nw ov tf FV FJ go gq gw ga ws) (hcl : cl = 512 - ((k + 1 : Nat) : Int)) (hI : MI 0 (cl + 1) mi ma) (hY : RLq n FX nw ov tf FV FJ go gq gw ga mi ma) (hP : va_P D vwCl (ws ++ mw cI cZ m0 mq mi ma) H) (hD : va_D (fun q : Nat => s.heap.size ≤ q) (ws ++ mw cI cZ m0 mq mi ma)) (hS : va_S (fun q : Nat => s.heap.size ≤ q) s.heap H locs) (ls : Array Slot) (hl : lv_has ls 4 [(0, .ref b), (1, .ref b0), (2, .ref m0), (3, .int (nI (5 * k)))]) : W p l e room_1 s m #[Value.ref b] below meth c H locs (63 + 2 * T + 13 * k) (1250718 + 11 * T + 100 * k) (lw_Z below #[Value.ref b] s) (F0 m 92 ls []) := by
  obtain ⟨hx, hb, hr, hml, hown, hts0, hX, hbl, hlocks, hgv⟩ := id C0
  have ha : ∀ w ∈ wsL_law, w.before #[Value.ref b] s = true := fun w h => hts0 w (wsL_law_in w h)
  have hA : ∀ q : Nat, s.heap.size ≤ q → (fun q : Nat => s.heap.size ≤ q) q := fun _ h => h
  have hbA : ¬ (fun q : Nat => s.heap.size ≤ q) b := Nat.not_le.mpr hbl
  obtain ⟨i3, hi⟩ : ∃ y, y = nI (5 * k) := ⟨_, rfl⟩
  rw [← hi] at hl
  have ti : i3.toInt = 5 * (k : Int) := by
    rw [hi, nI_toInt (by omega)]
    omega
  have hT8 := CWd_T hC
  have kc_1 := tk_1
  have kc_2 := tk_2
  have kc_3 := tk_3
  have kc_4 := tk_4
  refine lv_aload_n hx hb dL_law_92 rfl (lv_at hl 1 rfl) ?_
  refine lv_aload_n hx hb dL_law_93 rfl (lv_at hl 0 rfl) ?_
  refine lv_iload_n hx hb dL_law_94 rfl (lv_at hl 3 rfl) ?_
  refine lv_iconst (v := 1) hx hb dL_law_95 (by decide) ?_
  refine lv_iadd hx hb dL_law_96 ?_
  refine va_sld hx hb hX hbl hbA hS (vpi_of (by have t9 := ti_add (x := (i3 + 1)) rfl (by omega) (by omega); omega) (by have t9 := ti_add (x := (i3 + 1)) rfl (by omega) (by omega); omega)) dL_law_97 ?_
  refine lv_aload_n hx hb dL_law_98 rfl (lv_at hl 0 rfl) ?_
  refine lv_iload_n hx hb dL_law_99 rfl (lv_at hl 3 rfl) ?_
  refine lv_iconst (v := 2) hx hb dL_law_100 (by decide) ?_
  refine lv_iadd hx hb dL_law_101 ?_
  refine va_sld hx hb hX hbl hbA hS (vpi_of (by have t9 := ti_add (x := (i3 + 2)) rfl (by omega) (by omega); omega) (by have t9 := ti_add (x := (i3 + 2)) rfl (by omega) (by omega); omega)) dL_law_102 ?_
  refine lv_aload_n hx hb dL_law_103 rfl (lv_at hl 0 rfl) ?_
  refine lv_iload_n hx hb dL_law_104 rfl (lv_at hl 3 rfl) ?_
  refine lv_iconst (v := 3) hx hb dL_law_105 (by decide) ?_
  refine lv_iadd hx hb dL_law_106 ?_
  refine va_sld hx hb hX hbl hbA hS (vpi_of (by have t9 := ti_add (x := (i3 + 3)) rfl (by omega) (by omega); omega) (by have t9 := ti_add (x := (i3 + 3)) rfl (by omega) (by omega); omega)) dL_law_107 ?_
  refine lv_aload_n hx hb dL_law_108 rfl (lv_at hl 0 rfl) ?_
  refine lv_iload_n hx hb dL_law_109 rfl (lv_at hl 3 rfl) ?_
  refine lv_iconst (v := 4) hx hb dL_law_110 (by decide) ?_
  refine lv_iadd hx hb dL_law_111 ?_
  refine va_sld hx hb hX hbl hbA hS (vpi_of (by have t9 := ti_add (x := (i3 + 4)) rfl (by omega) (by omega); omega) (by have t9 := ti_add (x := (i3 + 4)) rfl (by omega) (by omega); omega)) dL_law_112 ?_
  obtain ⟨fl, fa, r0, r1, r2, r3, r4, r5, ol, cf, cx, zn, xl, tag, L, kd, pi, bd, af, bo, hws, hn, hR, hPB, hZ, hT, hLK, hq0, htot, hTe, hTI, hG, hJB⟩ := hC
  subst hws
  have hn9 := hn
  have hp0 := perm_idx (X := [(b0, cbC r0 fl nw), (fl, flC cO n fa), (r0, rdC ov (va_rf ol) r1 r2 r3 r4 r5), (r1, chC cf cx zn 0), (r2, chC cf cx zn 1), (r3, chC cf cx zn 2), (r4, chC cf cx zn 3), (r5, tlC cI tf)]) (Y := [(b0, cbC r0 fl nw), (r0, rdC ov (va_rf ol) r1 r2 r3 r4 r5)] ++ [(fl, flC cO n fa), (r1, chC cf cx zn 0), (r2, chC cf cx zn 1), (r3, chC cf cx zn 2), (r4, chC cf cx zn 3), (r5, tlC cI tf)]) (N := 8) [0, 2, 1, 3, 4, 5, 6, 7] rfl rfl (by decide)
  have hPq := hP.perm (pmL (cx := [(b0, cbC r0 fl nw), (r0, rdC ov (va_rf ol) r1 r2 r3 r4 r5)]) (xr := [(fl, flC cO n fa), (r1, chC cf cx zn 0), (r2, chC cf cx zn 1), (r3, chC cf cx zn 2), (r4, chC cf cx zn 3), (r5, tlC cI tf)]) (pl := va_pl L (pf cJ kd pi bd af bo)) (R := fls cJ fa FX FV FJ n) (M := mw cI cZ m0 mq mi ma) hp0)
  have hDq := hD.perm (pmL (cx := [(b0, cbC r0 fl nw), (r0, rdC ov (va_rf ol) r1 r2 r3 r4 r5)]) (xr := [(fl, flC cO n fa), (r1, chC cf cx zn 0), (r2, chC cf cx zn 1), (r3, chC cf cx zn 2), (r4, chC cf cx zn 3), (r5, tlC cI tf)]) (pl := va_pl L (pf cJ kd pi bd af bo)) (R := fls cJ fa FX FV FJ n) (M := mw cI cZ m0 mq mi ma) hp0)
  have hPc := hPq.left
  have hDc := hDq.left
  have hFc := va_freeR hDq hS hA
  refine va_calli (va_runV (As := [.int (xs ((i3 + 1) : Int32).toNatClampNeg), .int (xs ((i3 + 2) : Int32).toNatClampNeg), .int (xs ((i3 + 3) : Int32).toNatClampNeg), .int (xs ((i3 + 4) : Int32).toNatClampNeg)]) (rest := []) ⟨hx, hb, hml, hown, ha⟩ (s_link l D cI cJ cZ cO _ b0 fl r0 r1 r2 r3 r4 r5 nw ov ol (xs ((i3 + 1) : Int32).toNatClampNeg) (xs ((i3 + 2) : Int32).toNatClampNeg) (xs ((i3 + 3) : Int32).toNatClampNeg) (xs ((i3 + 4) : Int32).toNatClampNeg) hT hLK) (cwV 4 ha (gaV kl_L_13 km_X10_link ks_X10_link kz_X10 kd_X10_link) rfl rfl rfl (by decide +kernel) ⟨Nat.le_of_ble_eq_true rfl, Nat.le_of_ble_eq_true rfl⟩) ⟨pw_blind, va_recv hK hPc (ci := 10) (q0 := 0) rfl rfl, fun U hU hW => ⟨rfl, pw_start hU hW hPc hK hDc hN⟩⟩ rfl rfl hl.1 rfl (lv_room (Nat.le_of_ble_eq_true rfl)) dL_law_113 ⟨show (63 + 2 * T + 13 * k) + 0 ≤ 600000 by omega, show (1250718 + 11 * T + 100 * k) + 0 ≤ 7302250 by omega⟩) hS (fun q _ h => hFc q h) hFc (fun r_1 uc t H1 locs ht hvm hw hB hz1 hk1 hS => ?_)
  obtain ⟨ov2, hf, hP1, hK1, hD1⟩ := hB
  rw [ht] at hP1
  obtain ⟨hP, hD⟩ := va_joinR (w1 := [(b0, cbC r0 fl nw), (r0, rdC ov2 (va_rf ol) r1 r2 r3 r4 r5)]) hPq hDq hk1 hFc hP1 hD1
  have hp1 := perm_idx (X := [(fl, flC cO n fa), (r1, chC cf cx zn 0), (r2, chC cf cx zn 1), (r3, chC cf cx zn 2), (r4, chC cf cx zn 3), (r5, tlC cI tf)] ++ [(b0, cbC r0 fl nw), (r0, rdC ov2 (va_rf ol) r1 r2 r3 r4 r5)]) (Y := [(b0, cbC r0 fl nw), (fl, flC cO n fa), (r0, rdC ov2 (va_rf ol) r1 r2 r3 r4 r5), (r1, chC cf cx zn 0), (r2, chC cf cx zn 1), (r3, chC cf cx zn 2), (r4, chC cf cx zn 3), (r5, tlC cI tf)]) (N := 8) [6, 0, 7, 1, 2, 3, 4, 5] rfl rfl (by decide)
  have hP := hP.perm (pmLb (X2 := [(b0, cbC r0 fl nw), (fl, flC cO n fa), (r0, rdC ov2 (va_rf ol) r1 r2 r3 r4 r5), (r1, chC cf cx zn 0), (r2, chC cf cx zn 1), (r3, chC cf cx zn 2), (r4, chC cf cx zn 3), (r5, tlC cI tf)]) (xr := [(fl, flC cO n fa), (r1, chC cf cx zn 0), (r2, chC cf cx zn 1), (r3, chC cf cx zn 2), (r4, chC cf cx zn 3), (r5, tlC cI tf)]) (w1 := [(b0, cbC r0 fl nw), (r0, rdC ov2 (va_rf ol) r1 r2 r3 r4 r5)]) (pl := va_pl L (pf cJ kd pi bd af bo)) (R := fls cJ fa FX FV FJ n) (M := mw cI cZ m0 mq mi ma) hp1)
  have hD := hD.perm (pmLb (X2 := [(b0, cbC r0 fl nw), (fl, flC cO n fa), (r0, rdC ov2 (va_rf ol) r1 r2 r3 r4 r5), (r1, chC cf cx zn 0), (r2, chC cf cx zn 1), (r3, chC cf cx zn 2), (r4, chC cf cx zn 3), (r5, tlC cI tf)]) (xr := [(fl, flC cO n fa), (r1, chC cf cx zn 0), (r2, chC cf cx zn 1), (r3, chC cf cx zn 2), (r4, chC cf cx zn 3), (r5, tlC cI tf)]) (w1 := [(b0, cbC r0 fl nw), (r0, rdC ov2 (va_rf ol) r1 r2 r3 r4 r5)]) (pl := va_pl L (pf cJ kd pi bd af bo)) (R := fls cJ fa FX FV FJ n) (M := mw cI cZ m0 mq mi ma) hp1)
  clear hp0 hp1 hPq hDq
  generalize H1 = H at hP hS ⊢
  have hcf := hf
  have hC : CWd cI cJ cO b0 n FX T nw ov2 tf FV FJ go gq gw ga (([(b0, cbC r0 fl nw), (fl, flC cO n fa), (r0, rdC ov2 (va_rf ol) r1 r2 r3 r4 r5), (r1, chC cf cx zn 0), (r2, chC cf cx zn 1), (r3, chC cf cx zn 2), (r4, chC cf cx zn 3), (r5, tlC cI tf)] ++ va_pl L (pf cJ kd pi bd af bo)) ++ fls cJ fa FX FV FJ n) := ⟨fl, fa, r0, r1, r2, r3, r4, r5, ol, cf, cx, zn, xl, tag, L, kd, pi, bd, af, bo, rfl, hn, hR, hPB, hZ, hf.1.1, hf.1.2, hq0, htot, hTe, hTI, hG, hJB⟩
  clear hPc hDc hP1 hD1 hK1
  generalize (([(b0, cbC r0 fl nw), (fl, flC cO n fa), (r0, rdC ov2 (va_rf ol) r1 r2 r3 r4 r5), (r1, chC cf cx zn 0), (r2, chC cf cx zn 1), (r3, chC cf cx zn 2), (r4, chC cf cx zn 3), (r5, tlC cI tf)] ++ va_pl L (pf cJ kd pi bd af bo)) ++ fls cJ fa FX FV FJ n) = ws at hC hP hD
  refine W.widen (k := (63 + 2 * T + 13 * (k + 1))) (n := (1250718 + 11 * T + 100 * (k + 1))) (by omega) (by omega) ?_
  have hr_1 := hw
  refine lv_pop hx hb dL_law_116 rfl ?_
  refine lv_aload_n hx hb dL_law_117 rfl (lv_at hl 2 rfl) ?_
  refine lv_aload_n hx hb dL_law_118 rfl (lv_at hl 0 rfl) ?_
  refine lv_iload_n hx hb dL_law_119 rfl (lv_at hl 3 rfl) ?_
  refine lv_iconst (v := 1) hx hb dL_law_120 (by decide) ?_
  refine lv_iadd hx hb dL_law_121 ?_
  refine va_sld hx hb hX hbl hbA hS (vpi_of (by have t9 := ti_add (x := (i3 + 1)) rfl (by omega) (by omega); omega) (by have t9 := ti_add (x := (i3 + 1)) rfl (by omega) (by omega); omega)) dL_law_122 ?_
  refine lv_aload_n hx hb dL_law_123 rfl (lv_at hl 0 rfl) ?_
  refine lv_iload_n hx hb dL_law_124 rfl (lv_at hl 3 rfl) ?_
  refine lv_iconst (v := 2) hx hb dL_law_125 (by decide) ?_
  refine lv_iadd hx hb dL_law_126 ?_
  refine va_sld hx hb hX hbl hbA hS (vpi_of (by have t9 := ti_add (x := (i3 + 2)) rfl (by omega) (by omega); omega) (by have t9 := ti_add (x := (i3 + 2)) rfl (by omega) (by omega); omega)) dL_law_127 ?_
  refine lv_aload_n hx hb dL_law_128 rfl (lv_at hl 0 rfl) ?_
  refine lv_iload_n hx hb dL_law_129 rfl (lv_at hl 3 rfl) ?_
  refine lv_iconst (v := 3) hx hb dL_law_130 (by decide) ?_
  refine lv_iadd hx hb dL_law_131 ?_
  refine va_sld hx hb hX hbl hbA hS (vpi_of (by have t9 := ti_add (x := (i3 + 3)) rfl (by omega) (by omega); omega) (by have t9 := ti_add (x := (i3 + 3)) rfl (by omega) (by omega); omega)) dL_law_132 ?_
  refine lv_aload_n hx hb dL_law_133 rfl (lv_at hl 0 rfl) ?_
  refine lv_iload_n hx hb dL_law_134 rfl (lv_at hl 3 rfl) ?_
  refine lv_iconst (v := 4) hx hb dL_law_135 (by decide) ?_
  refine lv_iadd hx hb dL_law_136 ?_
  refine va_sld hx hb hX hbl hbA hS (vpi_of (by have t9 := ti_add (x := (i3 + 4)) rfl (by omega) (by omega); omega) (by have t9 := ti_add (x := (i3 + 4)) rfl (by omega) (by omega); omega)) dL_law_137 ?_
  have hI0 := hI
  have hPq := hP.perm List.perm_append_comm
  have hDq := hD.perm List.perm_append_comm
  have hPc := hPq.left
  have hDc := hDq.left
  have hFc := va_freeR hDq hS hA
  refine va_calli (va_runV (As := [.int (xs ((i3 + 1) : Int32).toNatClampNeg), .int (xs ((i3 + 2) : Int32).toNatClampNeg), .int (xs ((i3 + 3) : Int32).toNatClampNeg), .int (xs ((i3 + 4) : Int32).toNatClampNeg)]) (rest := []) ⟨hx, hb, hml, hown, ha⟩ (m_link l D cI cJ cZ cO _ m0 mq mi ma 0 (cl + 1) (xs ((i3 + 1) : Int32).toNatClampNeg) (xs ((i3 + 2) : Int32).toNatClampNeg) (xs ((i3 + 3) : Int32).toNatClampNeg) (xs ((i3 + 4) : Int32).toNatClampNeg) hI) (cwV 4 ha (gaV kl_L_17 km_X11_link ks_X11_link kz_X11 kd_X11_link) rfl rfl rfl (by decide +kernel) ⟨Nat.le_of_ble_eq_true rfl, Nat.le_of_ble_eq_true rfl⟩) ⟨pw_blind, va_recv hK hPc (ci := 11) (q0 := 0) rfl rfl, fun U hU hW => ⟨rfl, pw_start hU hW hPc hK hDc hN⟩⟩ rfl rfl hl.1 rfl (lv_room (Nat.le_of_ble_eq_true rfl)) dL_law_138 ⟨show (63 + 2 * T + 13 * (k + 1)) + 0 ≤ 600000 by omega, show (1250718 + 11 * T + 100 * (k + 1)) + 0 ≤ 7302250 by omega⟩) hS (fun q _ h => hFc q h) hFc (fun r_2 um t H1 locs ht hvm hw hB hz1 hk1 hS => ?_)
  obtain ⟨mi2, ma2, hf, hP1, hK1, hD1⟩ := hB
  rw [ht] at hP1
  obtain ⟨hP, hD⟩ := va_joinR hPq hDq hk1 hFc hP1 hD1
  have hP := hP.perm List.perm_append_comm
  have hD := hD.perm List.perm_append_comm
  have hI : MI 0 cl mi2 ma2 := MI_cl hf.1.1
  have hY : RLq n FX nw ov2 tf FV FJ go gq gw ga mi2 ma2 := by rw [hcf.2, hf.2.1, hf.2.2]; exact RLq_link hY
  clear hPq hDq hPc hDc hP1 hD1 hK1
  generalize H1 = H at hP hS ⊢
  have hr_2 := hw
  refine lv_pop hx hb dL_law_141 rfl ?_
  refine lv_goto (tgt := 451) hx hb dL_law_142 (by decide) ?_
  exact law_tail l C0 hL D cI cJ cZ cO hK hN b0 m0 mq k (by omega) hLP n FX T nw ov2 tf FV FJ go gq gw ga ws mi2 ma2 cl _ _ hC hcl hI hY hP hD hS _ _ (by omega) (by omega) i3 hi ls (lv_sub hl [0, 1, 2, 3] rfl)
set_option maxHeartbeats 4000000 in
set_option maxRecDepth 100000 in
theorem law_case1 {p : Program} {e : Env} {s : State} {m : MethodId} {below : List Frame} {meth : Method} {c : Code} (l : Launch) {b L0 : Nat} {xs : Nat → Int32} (C0 : lw_At p s m meth c b L0 xs) (hL : L0 ≤ 2560) (D : va_G) (cI cJ cZ cO : ClassId) (hK : va_K D vwCl (pw_ty cI cJ cZ cO) s) (hN : nw s) (b0 m0 : Nat) (mq : Nat → Nat) (k : Nat) (hk : 5 * k + 5 ≤ L0) (hLP : LWP p l e s m below meth c D cI cJ cZ cO b b0 m0 mq (k + 1)) (n : Nat) (FX : Nat → Nat → Int32) (T : Nat) (nw : Int32) (ov tf : Nat → Int32) (FV : Nat → Nat → Nat → Int32) (FJ : Nat → Nat → Nat → Int64) (go : Option S4) (gq : List S3) (gw : List S4) (ga : List A6) (ws : va_W) (mi : Nat → Int32) (ma : Nat → Nat → Int32) (cl : Int) (H : Heap) (locs : List Loc) (hC : CWd cI cJ cO b0 n FX T nw ov tf FV FJ go gq gw ga ws) (hcl : cl = 512 - ((k + 1 : Nat) : Int)) (hI : MI 0 (cl + 1) mi ma) (hY : RLq n FX nw ov tf FV FJ go gq gw ga mi ma) (hP : va_P D vwCl (ws ++ mw cI cZ m0 mq mi ma) H) (hD : va_D (fun q : Nat => s.heap.size ≤ q) (ws ++ mw cI cZ m0 mq mi ma)) (hS : va_S (fun q : Nat => s.heap.size ≤ q) s.heap H locs) (ls : Array Slot) (hl : lv_has ls 4 [(0, .ref b), (1, .ref b0), (2, .ref m0), (3, .int (nI (5 * k)))]) : W p l e room_1 s m #[Value.ref b] below meth c H locs (63 + 2 * T + 13 * k) (1250718 + 11 * T + 100 * k) (lw_Z below #[Value.ref b] s) (F0 m 145 ls []) := by
  obtain ⟨hx, hb, hr, hml, hown, hts0, hX, hbl, hlocks, hgv⟩ := id C0
  have ha : ∀ w ∈ wsL_law, w.before #[Value.ref b] s = true := fun w h => hts0 w (wsL_law_in w h)
  have hA : ∀ q : Nat, s.heap.size ≤ q → (fun q : Nat => s.heap.size ≤ q) q := fun _ h => h
  have hbA : ¬ (fun q : Nat => s.heap.size ≤ q) b := Nat.not_le.mpr hbl
  obtain ⟨i3, hi⟩ : ∃ y, y = nI (5 * k) := ⟨_, rfl⟩
  rw [← hi] at hl
  have ti : i3.toInt = 5 * (k : Int) := by
    rw [hi, nI_toInt (by omega)]
    omega
  have hT8 := CWd_T hC
  have kc_1 := tk_1
  have kc_2 := tk_2
  have kc_3 := tk_3
  have kc_4 := tk_4
  refine lv_aload_n hx hb dL_law_145 rfl (lv_at hl 1 rfl) ?_
  refine lv_aload_n hx hb dL_law_146 rfl (lv_at hl 0 rfl) ?_
  refine lv_iload_n hx hb dL_law_147 rfl (lv_at hl 3 rfl) ?_
  refine lv_iconst (v := 1) hx hb dL_law_148 (by decide) ?_
  refine lv_iadd hx hb dL_law_149 ?_
  refine va_sld hx hb hX hbl hbA hS (vpi_of (by have t9 := ti_add (x := (i3 + 1)) rfl (by omega) (by omega); omega) (by have t9 := ti_add (x := (i3 + 1)) rfl (by omega) (by omega); omega)) dL_law_150 ?_
  refine lv_aload_n hx hb dL_law_151 rfl (lv_at hl 0 rfl) ?_
  refine lv_iload_n hx hb dL_law_152 rfl (lv_at hl 3 rfl) ?_
  refine lv_iconst (v := 2) hx hb dL_law_153 (by decide) ?_
  refine lv_iadd hx hb dL_law_154 ?_
  refine va_sld hx hb hX hbl hbA hS (vpi_of (by have t9 := ti_add (x := (i3 + 2)) rfl (by omega) (by omega); omega) (by have t9 := ti_add (x := (i3 + 2)) rfl (by omega) (by omega); omega)) dL_law_155 ?_
  refine lv_if_eq (tgt := 163) hx hb dL_law_156 (by decide) (fun c_1 => ?_) (fun c_1 => ?_)
  · refine lv_iconst (v := 0) hx hb dL_law_163 (by decide) ?_
    obtain ⟨fl, fa, r0, r1, r2, r3, r4, r5, ol, cf, cx, zn, xl, tag, L, kd, pi, bd, af, bo, hws, hn, hR, hPB, hZ, hT, hLK, hq0, htot, hTe, hTI, hG, hJB⟩ := hC
    subst hws
    have hn9 := hn
    have hPc := hP.left
    have hDc := hD.left
    have hFc := va_freeR hD hS hA
    refine va_calli (va_runV (As := [.int (xs ((i3 + 1) : Int32).toNatClampNeg), .int 0]) (rest := []) ⟨hx, hb, hml, hown, ha⟩ (s_flow l D cI cJ cZ cO _ b0 fl nw n fa FX FV FJ hn r0 r1 r2 r3 r4 r5 ov ol cf cx zn xl tag L kd pi bd af bo go gq gw ga tf (xs ((i3 + 1) : Int32).toNatClampNeg) (0 : Int32) (by decide)) (cwV 2 ha (gaV kl_L_18 km_X10_flow ks_X10_flow kz_X10 kd_X10_flow) rfl rfl rfl (by decide +kernel) ⟨Nat.le_of_ble_eq_true rfl, Nat.le_of_ble_eq_true rfl⟩) ⟨pw_blind, va_recv hK hPc (ci := 10) (q0 := 0) rfl rfl, fun U hU hW => ⟨rfl, pw_start hU hW hPc hK hDc hN⟩⟩ rfl rfl hl.1 rfl (lv_room (Nat.le_of_ble_eq_true rfl)) dL_law_164 ⟨show (63 + 2 * T + 13 * k) + 13 ≤ 600000 by omega, show (1250718 + 11 * T + 100 * k) + 100 ≤ 7302250 by omega⟩) hS (fun q _ h => hFc q h) hFc (fun r_2 uc t H1 locs ht hvm hw hB hz1 hk1 hS => ?_)
    obtain ⟨fl2, fa2, FX2, FV2, FJ2, hcf, hP1, hK1, hD1⟩ := hB
    rw [ht] at hP1
    obtain ⟨hP, hD⟩ := va_joinR hP hD hk1 hFc hP1 hD1
    generalize H1 = H at hP hS ⊢
    have hC : CWd cI cJ cO b0 uc FX2 T nw ov tf FV2 FJ2 go gq gw ga (([(b0, cbC r0 fl2 nw), (fl2, flC cO uc fa2), (r0, rdC ov (va_rf ol) r1 r2 r3 r4 r5), (r1, chC cf cx zn 0), (r2, chC cf cx zn 1), (r3, chC cf cx zn 2), (r4, chC cf cx zn 3), (r5, tlC cI tf)] ++ va_pl L (pf cJ kd pi bd af bo)) ++ fls cJ fa2 FX2 FV2 FJ2 uc) := ⟨fl2, fa2, r0, r1, r2, r3, r4, r5, ol, cf, cx, zn, xl, tag, L, kd, pi, bd, af, bo, rfl, FLW_n hn hw, hR, hPB, hZ, hT, hLK, hq0, htot, hTe, hTI, hG, hJB⟩
    clear hPc hDc hP1 hD1 hK1
    generalize (([(b0, cbC r0 fl2 nw), (fl2, flC cO uc fa2), (r0, rdC ov (va_rf ol) r1 r2 r3 r4 r5), (r1, chC cf cx zn 0), (r2, chC cf cx zn 1), (r3, chC cf cx zn 2), (r4, chC cf cx zn 3), (r5, tlC cI tf)] ++ va_pl L (pf cJ kd pi bd af bo)) ++ fls cJ fa2 FX2 FV2 FJ2 uc) = ws at hC hP hD
    refine W.widen (k := (63 + 2 * T + 13 * (k + 1))) (n := (1250718 + 11 * T + 100 * (k + 1))) (by omega) (by omega) ?_
    have hr_2 := hw
    refine lv_pop hx hb dL_law_167 rfl ?_
    refine lv_aload_n hx hb dL_law_168 rfl (lv_at hl 2 rfl) ?_
    refine lv_aload_n hx hb dL_law_169 rfl (lv_at hl 0 rfl) ?_
    refine lv_iload_n hx hb dL_law_170 rfl (lv_at hl 3 rfl) ?_
    refine lv_iconst (v := 1) hx hb dL_law_171 (by decide) ?_
    refine lv_iadd hx hb dL_law_172 ?_
    refine va_sld hx hb hX hbl hbA hS (vpi_of (by have t9 := ti_add (x := (i3 + 1)) rfl (by omega) (by omega); omega) (by have t9 := ti_add (x := (i3 + 1)) rfl (by omega) (by omega); omega)) dL_law_173 ?_
    refine lv_aload_n hx hb dL_law_174 rfl (lv_at hl 0 rfl) ?_
    refine lv_iload_n hx hb dL_law_175 rfl (lv_at hl 3 rfl) ?_
    refine lv_iconst (v := 2) hx hb dL_law_176 (by decide) ?_
    refine lv_iadd hx hb dL_law_177 ?_
    refine va_sld hx hb hX hbl hbA hS (vpi_of (by have t9 := ti_add (x := (i3 + 2)) rfl (by omega) (by omega); omega) (by have t9 := ti_add (x := (i3 + 2)) rfl (by omega) (by omega); omega)) dL_law_178 ?_
    refine lv_if_eq (tgt := 186) hx hb dL_law_179 (by decide) (fun c_3 => ?_) (fun c_3 => ?_)
    rotate_left
    · exact absurd (c_1) c_3
    refine lv_iconst (v := 0) hx hb dL_law_186 (by decide) ?_
    have hI0 := hI
    have hPq := hP.perm List.perm_append_comm
    have hDq := hD.perm List.perm_append_comm
    have hPc := hPq.left
    have hDc := hDq.left
    have hFc := va_freeR hDq hS hA
    refine va_calli (va_runV (As := [.int (xs ((i3 + 1) : Int32).toNatClampNeg), .int 0]) (rest := []) ⟨hx, hb, hml, hown, ha⟩ (m_flow l D cI cJ cZ cO _ m0 mq mi ma 0 (cl + 1) (xs ((i3 + 1) : Int32).toNatClampNeg) (0 : Int32) hI.1 hI.2) (cwV 2 ha (gaV kl_L_22 km_X11_flow ks_X11_flow kz_X11 kd_X11_flow) rfl rfl rfl (by decide +kernel) ⟨Nat.le_of_ble_eq_true rfl, Nat.le_of_ble_eq_true rfl⟩) ⟨pw_blind, va_recv hK hPc (ci := 11) (q0 := 0) rfl rfl, fun U hU hW => ⟨rfl, pw_start hU hW hPc hK hDc hN⟩⟩ rfl rfl hl.1 rfl (lv_room (Nat.le_of_ble_eq_true rfl)) dL_law_187 ⟨show (63 + 2 * T + 13 * (k + 1)) + 0 ≤ 600000 by omega, show (1250718 + 11 * T + 100 * (k + 1)) + 0 ≤ 7302250 by omega⟩) hS (fun q _ h => hFc q h) hFc (fun r_4 um t H1 locs ht hvm hw hB hz1 hk1 hS => ?_)
    obtain ⟨mi2, ma2, hf, hP1, hK1, hD1⟩ := hB
    rw [ht] at hP1
    obtain ⟨hP, hD⟩ := va_joinR hPq hDq hk1 hFc hP1 hD1
    have hP := hP.perm List.perm_append_comm
    have hD := hD.perm List.perm_append_comm
    have hI : MI 0 cl mi2 ma2 := MI_cl ⟨hf.1.1, hf.1.2.2.2.1⟩
    have hY : RLq uc FX2 nw ov tf FV2 FJ2 go gq gw ga mi2 ma2 := by rw [hf.2.1, hf.2.2]; exact RLq_flow hY (by decide) hr_2 hcf
    clear hPq hDq hPc hDc hP1 hD1 hK1
    generalize H1 = H at hP hS ⊢
    have hr_4 := hw
    refine lv_pop hx hb dL_law_190 rfl ?_
    refine lv_goto (tgt := 451) hx hb dL_law_191 (by decide) ?_
    exact law_tail l C0 hL D cI cJ cZ cO hK hN b0 m0 mq k (by omega) hLP uc FX2 T nw ov tf FV2 FJ2 go gq gw ga ws mi2 ma2 cl _ _ hC hcl hI hY hP hD hS _ _ (by omega) (by omega) i3 hi ls (lv_sub hl [0, 1, 2, 3] rfl)
  · refine lv_iconst (v := 1) hx hb dL_law_159 (by decide) ?_
    refine lv_goto (tgt := 164) hx hb dL_law_160 (by decide) ?_
    obtain ⟨fl, fa, r0, r1, r2, r3, r4, r5, ol, cf, cx, zn, xl, tag, L, kd, pi, bd, af, bo, hws, hn, hR, hPB, hZ, hT, hLK, hq0, htot, hTe, hTI, hG, hJB⟩ := hC
    subst hws
    have hn9 := hn
    have hPc := hP.left
    have hDc := hD.left
    have hFc := va_freeR hD hS hA
    refine va_calli (va_runV (As := [.int (xs ((i3 + 1) : Int32).toNatClampNeg), .int 1]) (rest := []) ⟨hx, hb, hml, hown, ha⟩ (s_flow l D cI cJ cZ cO _ b0 fl nw n fa FX FV FJ hn r0 r1 r2 r3 r4 r5 ov ol cf cx zn xl tag L kd pi bd af bo go gq gw ga tf (xs ((i3 + 1) : Int32).toNatClampNeg) (1 : Int32) (by decide)) (cwV 2 ha (gaV kl_L_18 km_X10_flow ks_X10_flow kz_X10 kd_X10_flow) rfl rfl rfl (by decide +kernel) ⟨Nat.le_of_ble_eq_true rfl, Nat.le_of_ble_eq_true rfl⟩) ⟨pw_blind, va_recv hK hPc (ci := 10) (q0 := 0) rfl rfl, fun U hU hW => ⟨rfl, pw_start hU hW hPc hK hDc hN⟩⟩ rfl rfl hl.1 rfl (lv_room (Nat.le_of_ble_eq_true rfl)) dL_law_164 ⟨show (63 + 2 * T + 13 * k) + 13 ≤ 600000 by omega, show (1250718 + 11 * T + 100 * k) + 100 ≤ 7302250 by omega⟩) hS (fun q _ h => hFc q h) hFc (fun r_5 uc t H1 locs ht hvm hw hB hz1 hk1 hS => ?_)
    obtain ⟨fl2, fa2, FX2, FV2, FJ2, hcf, hP1, hK1, hD1⟩ := hB
    rw [ht] at hP1
    obtain ⟨hP, hD⟩ := va_joinR hP hD hk1 hFc hP1 hD1
    generalize H1 = H at hP hS ⊢
    have hC : CWd cI cJ cO b0 uc FX2 T nw ov tf FV2 FJ2 go gq gw ga (([(b0, cbC r0 fl2 nw), (fl2, flC cO uc fa2), (r0, rdC ov (va_rf ol) r1 r2 r3 r4 r5), (r1, chC cf cx zn 0), (r2, chC cf cx zn 1), (r3, chC cf cx zn 2), (r4, chC cf cx zn 3), (r5, tlC cI tf)] ++ va_pl L (pf cJ kd pi bd af bo)) ++ fls cJ fa2 FX2 FV2 FJ2 uc) := ⟨fl2, fa2, r0, r1, r2, r3, r4, r5, ol, cf, cx, zn, xl, tag, L, kd, pi, bd, af, bo, rfl, FLW_n hn hw, hR, hPB, hZ, hT, hLK, hq0, htot, hTe, hTI, hG, hJB⟩
    clear hPc hDc hP1 hD1 hK1
    generalize (([(b0, cbC r0 fl2 nw), (fl2, flC cO uc fa2), (r0, rdC ov (va_rf ol) r1 r2 r3 r4 r5), (r1, chC cf cx zn 0), (r2, chC cf cx zn 1), (r3, chC cf cx zn 2), (r4, chC cf cx zn 3), (r5, tlC cI tf)] ++ va_pl L (pf cJ kd pi bd af bo)) ++ fls cJ fa2 FX2 FV2 FJ2 uc) = ws at hC hP hD
    refine W.widen (k := (63 + 2 * T + 13 * (k + 1))) (n := (1250718 + 11 * T + 100 * (k + 1))) (by omega) (by omega) ?_
    have hr_5 := hw
    refine lv_pop hx hb dL_law_167 rfl ?_
    refine lv_aload_n hx hb dL_law_168 rfl (lv_at hl 2 rfl) ?_
    refine lv_aload_n hx hb dL_law_169 rfl (lv_at hl 0 rfl) ?_
    refine lv_iload_n hx hb dL_law_170 rfl (lv_at hl 3 rfl) ?_
    refine lv_iconst (v := 1) hx hb dL_law_171 (by decide) ?_
    refine lv_iadd hx hb dL_law_172 ?_
    refine va_sld hx hb hX hbl hbA hS (vpi_of (by have t9 := ti_add (x := (i3 + 1)) rfl (by omega) (by omega); omega) (by have t9 := ti_add (x := (i3 + 1)) rfl (by omega) (by omega); omega)) dL_law_173 ?_
    refine lv_aload_n hx hb dL_law_174 rfl (lv_at hl 0 rfl) ?_
    refine lv_iload_n hx hb dL_law_175 rfl (lv_at hl 3 rfl) ?_
    refine lv_iconst (v := 2) hx hb dL_law_176 (by decide) ?_
    refine lv_iadd hx hb dL_law_177 ?_
    refine va_sld hx hb hX hbl hbA hS (vpi_of (by have t9 := ti_add (x := (i3 + 2)) rfl (by omega) (by omega); omega) (by have t9 := ti_add (x := (i3 + 2)) rfl (by omega) (by omega); omega)) dL_law_178 ?_
    refine lv_if_eq (tgt := 186) hx hb dL_law_179 (by decide) (fun c_6 => ?_) (fun c_6 => ?_)
    · exact absurd c_6 (c_1)
    refine lv_iconst (v := 1) hx hb dL_law_182 (by decide) ?_
    refine lv_goto (tgt := 187) hx hb dL_law_183 (by decide) ?_
    have hI0 := hI
    have hPq := hP.perm List.perm_append_comm
    have hDq := hD.perm List.perm_append_comm
    have hPc := hPq.left
    have hDc := hDq.left
    have hFc := va_freeR hDq hS hA
    refine va_calli (va_runV (As := [.int (xs ((i3 + 1) : Int32).toNatClampNeg), .int 1]) (rest := []) ⟨hx, hb, hml, hown, ha⟩ (m_flow l D cI cJ cZ cO _ m0 mq mi ma 0 (cl + 1) (xs ((i3 + 1) : Int32).toNatClampNeg) (1 : Int32) hI.1 hI.2) (cwV 2 ha (gaV kl_L_22 km_X11_flow ks_X11_flow kz_X11 kd_X11_flow) rfl rfl rfl (by decide +kernel) ⟨Nat.le_of_ble_eq_true rfl, Nat.le_of_ble_eq_true rfl⟩) ⟨pw_blind, va_recv hK hPc (ci := 11) (q0 := 0) rfl rfl, fun U hU hW => ⟨rfl, pw_start hU hW hPc hK hDc hN⟩⟩ rfl rfl hl.1 rfl (lv_room (Nat.le_of_ble_eq_true rfl)) dL_law_187 ⟨show (63 + 2 * T + 13 * (k + 1)) + 0 ≤ 600000 by omega, show (1250718 + 11 * T + 100 * (k + 1)) + 0 ≤ 7302250 by omega⟩) hS (fun q _ h => hFc q h) hFc (fun r_7 um t H1 locs ht hvm hw hB hz1 hk1 hS => ?_)
    obtain ⟨mi2, ma2, hf, hP1, hK1, hD1⟩ := hB
    rw [ht] at hP1
    obtain ⟨hP, hD⟩ := va_joinR hPq hDq hk1 hFc hP1 hD1
    have hP := hP.perm List.perm_append_comm
    have hD := hD.perm List.perm_append_comm
    have hI : MI 0 cl mi2 ma2 := MI_cl ⟨hf.1.1, hf.1.2.2.2.1⟩
    have hY : RLq uc FX2 nw ov tf FV2 FJ2 go gq gw ga mi2 ma2 := by rw [hf.2.1, hf.2.2]; exact RLq_flow hY (by decide) hr_5 hcf
    clear hPq hDq hPc hDc hP1 hD1 hK1
    generalize H1 = H at hP hS ⊢
    have hr_7 := hw
    refine lv_pop hx hb dL_law_190 rfl ?_
    refine lv_goto (tgt := 451) hx hb dL_law_191 (by decide) ?_
    exact law_tail l C0 hL D cI cJ cZ cO hK hN b0 m0 mq k (by omega) hLP uc FX2 T nw ov tf FV2 FJ2 go gq gw ga ws mi2 ma2 cl _ _ hC hcl hI hY hP hD hS _ _ (by omega) (by omega) i3 hi ls (lv_sub hl [0, 1, 2, 3] rfl)
set_option maxHeartbeats 4000000 in
set_option maxRecDepth 100000 in
theorem law_case2 {p : Program} {e : Env} {s : State} {m : MethodId} {below : List Frame} {meth : Method} {c : Code} (l : Launch) {b L0 : Nat} {xs : Nat → Int32} (C0 : lw_At p s m meth c b L0 xs) (hL : L0 ≤ 2560) (D : va_G) (cI cJ cZ cO : ClassId) (hK : va_K D vwCl (pw_ty cI cJ cZ cO) s) (hN : nw s) (b0 m0 : Nat) (mq : Nat → Nat) (k : Nat) (hk : 5 * k + 5 ≤ L0) (hLP : LWP p l e s m below meth c D cI cJ cZ cO b b0 m0 mq (k + 1)) (n : Nat) (FX : Nat → Nat → Int32) (T : Nat) (nw : Int32) (ov tf : Nat → Int32) (FV : Nat → Nat → Nat → Int32) (FJ : Nat → Nat → Nat → Int64) (go : Option S4) (gq : List S3) (gw : List S4) (ga : List A6) (ws : va_W) (mi : Nat → Int32) (ma : Nat → Nat → Int32) (cl : Int) (H : Heap) (locs : List Loc) (hC : CWd cI cJ cO b0 n FX T nw ov tf FV FJ go gq gw ga ws) (hcl : cl = 512 - ((k + 1 : Nat) : Int)) (hI : MI 0 (cl + 1) mi ma) (hY : RLq n FX nw ov tf FV FJ go gq gw ga mi ma) (hP : va_P D vwCl (ws ++ mw cI cZ m0 mq mi ma) H) (hD : va_D (fun q : Nat => s.heap.size ≤ q) (ws ++ mw cI cZ m0 mq mi ma)) (hS : va_S (fun q : Nat => s.heap.size ≤ q) s.heap H locs) (ls : Array Slot) (hl : lv_has ls 4 [(0, .ref b), (1, .ref b0), (2, .ref m0), (3, .int (nI (5 * k)))]) : W p l e room_1 s m #[Value.ref b] below meth c H locs (63 + 2 * T + 13 * k) (1250718 + 11 * T + 100 * k) (lw_Z below #[Value.ref b] s) (F0 m 194 ls []) := by
  obtain ⟨hx, hb, hr, hml, hown, hts0, hX, hbl, hlocks, hgv⟩ := id C0
  have ha : ∀ w ∈ wsL_law, w.before #[Value.ref b] s = true := fun w h => hts0 w (wsL_law_in w h)
  have hA : ∀ q : Nat, s.heap.size ≤ q → (fun q : Nat => s.heap.size ≤ q) q := fun _ h => h
  have hbA : ¬ (fun q : Nat => s.heap.size ≤ q) b := Nat.not_le.mpr hbl
  obtain ⟨i3, hi⟩ : ∃ y, y = nI (5 * k) := ⟨_, rfl⟩
  rw [← hi] at hl
  have ti : i3.toInt = 5 * (k : Int) := by
    rw [hi, nI_toInt (by omega)]
    omega
  have hT8 := CWd_T hC
  have kc_1 := tk_1
  have kc_2 := tk_2
  have kc_3 := tk_3
  have kc_4 := tk_4
  refine lv_aload_n hx hb dL_law_194 rfl (lv_at hl 1 rfl) ?_
  refine lv_aload_n hx hb dL_law_195 rfl (lv_at hl 0 rfl) ?_
  refine lv_iload_n hx hb dL_law_196 rfl (lv_at hl 3 rfl) ?_
  refine lv_iconst (v := 1) hx hb dL_law_197 (by decide) ?_
  refine lv_iadd hx hb dL_law_198 ?_
  refine va_sld hx hb hX hbl hbA hS (vpi_of (by have t9 := ti_add (x := (i3 + 1)) rfl (by omega) (by omega); omega) (by have t9 := ti_add (x := (i3 + 1)) rfl (by omega) (by omega); omega)) dL_law_199 ?_
  refine lv_aload_n hx hb dL_law_200 rfl (lv_at hl 0 rfl) ?_
  refine lv_iload_n hx hb dL_law_201 rfl (lv_at hl 3 rfl) ?_
  refine lv_iconst (v := 2) hx hb dL_law_202 (by decide) ?_
  refine lv_iadd hx hb dL_law_203 ?_
  refine va_sld hx hb hX hbl hbA hS (vpi_of (by have t9 := ti_add (x := (i3 + 2)) rfl (by omega) (by omega); omega) (by have t9 := ti_add (x := (i3 + 2)) rfl (by omega) (by omega); omega)) dL_law_204 ?_
  obtain ⟨fl, fa, r0, r1, r2, r3, r4, r5, ol, cf, cx, zn, xl, tag, L, kd, pi, bd, af, bo, hws, hn, hR, hPB, hZ, hT, hLK, hq0, htot, hTe, hTI, hG, hJB⟩ := hC
  subst hws
  have hn9 := hn
  have hPc := hP.left
  have hDc := hD.left
  have hFc := va_freeR hD hS hA
  refine va_calli (va_runV (As := [.int (xs ((i3 + 1) : Int32).toNatClampNeg), .int (xs ((i3 + 2) : Int32).toNatClampNeg)]) (rest := []) ⟨hx, hb, hml, hown, ha⟩ (s_send l D cI cJ cZ cO _ b0 fl nw n fa FX FV FJ hn r0 r1 r2 r3 r4 r5 ov ol cf cx zn xl tag L kd pi bd af bo go gq gw ga tf (xs ((i3 + 1) : Int32).toNatClampNeg) (xs ((i3 + 2) : Int32).toNatClampNeg)) (cwV 2 ha (gaV kl_L_23 km_X10_send ks_X10_send kz_X10 kd_X10_send) rfl rfl rfl (by decide +kernel) ⟨Nat.le_of_ble_eq_true rfl, Nat.le_of_ble_eq_true rfl⟩) ⟨pw_blind, va_recv hK hPc (ci := 10) (q0 := 0) rfl rfl, fun U hU hW => ⟨rfl, pw_start hU hW hPc hK hDc hN⟩⟩ rfl rfl hl.1 rfl (lv_room (Nat.le_of_ble_eq_true rfl)) dL_law_205 ⟨show (63 + 2 * T + 13 * k) + 0 ≤ 600000 by omega, show (1250718 + 11 * T + 100 * k) + 0 ≤ 7302250 by omega⟩) hS (fun q _ h => hFc q h) hFc (fun r_1 uc t H1 locs ht hvm hw hB hz1 hk1 hS => ?_)
  obtain ⟨FV2, FJ2, hcf, hP1, hK1, hD1⟩ := hB
  rw [ht] at hP1
  obtain ⟨hP, hD⟩ := va_joinR hP hD hk1 hFc hP1 hD1
  generalize H1 = H at hP hS ⊢
  have hC : CWd cI cJ cO b0 n uc T nw ov tf FV2 FJ2 go gq gw ga (([(b0, cbC r0 fl nw), (fl, flC cO n fa), (r0, rdC ov (va_rf ol) r1 r2 r3 r4 r5), (r1, chC cf cx zn 0), (r2, chC cf cx zn 1), (r3, chC cf cx zn 2), (r4, chC cf cx zn 3), (r5, tlC cI tf)] ++ va_pl L (pf cJ kd pi bd af bo)) ++ fls cJ fa uc FV2 FJ2 n) := ⟨fl, fa, r0, r1, r2, r3, r4, r5, ol, cf, cx, zn, xl, tag, L, kd, pi, bd, af, bo, rfl, hn, hR, hPB, hZ, hT, hLK, hq0, htot, hTe, hTI, hG, hJB⟩
  clear hPc hDc hP1 hD1 hK1
  generalize (([(b0, cbC r0 fl nw), (fl, flC cO n fa), (r0, rdC ov (va_rf ol) r1 r2 r3 r4 r5), (r1, chC cf cx zn 0), (r2, chC cf cx zn 1), (r3, chC cf cx zn 2), (r4, chC cf cx zn 3), (r5, tlC cI tf)] ++ va_pl L (pf cJ kd pi bd af bo)) ++ fls cJ fa uc FV2 FJ2 n) = ws at hC hP hD
  refine W.widen (k := (63 + 2 * T + 13 * (k + 1))) (n := (1250718 + 11 * T + 100 * (k + 1))) (by omega) (by omega) ?_
  have hr_1 := hw
  refine lv_pop hx hb dL_law_208 rfl ?_
  refine lv_aload_n hx hb dL_law_209 rfl (lv_at hl 2 rfl) ?_
  refine lv_aload_n hx hb dL_law_210 rfl (lv_at hl 0 rfl) ?_
  refine lv_iload_n hx hb dL_law_211 rfl (lv_at hl 3 rfl) ?_
  refine lv_iconst (v := 1) hx hb dL_law_212 (by decide) ?_
  refine lv_iadd hx hb dL_law_213 ?_
  refine va_sld hx hb hX hbl hbA hS (vpi_of (by have t9 := ti_add (x := (i3 + 1)) rfl (by omega) (by omega); omega) (by have t9 := ti_add (x := (i3 + 1)) rfl (by omega) (by omega); omega)) dL_law_214 ?_
  refine lv_aload_n hx hb dL_law_215 rfl (lv_at hl 0 rfl) ?_
  refine lv_iload_n hx hb dL_law_216 rfl (lv_at hl 3 rfl) ?_
  refine lv_iconst (v := 2) hx hb dL_law_217 (by decide) ?_
  refine lv_iadd hx hb dL_law_218 ?_
  refine va_sld hx hb hX hbl hbA hS (vpi_of (by have t9 := ti_add (x := (i3 + 2)) rfl (by omega) (by omega); omega) (by have t9 := ti_add (x := (i3 + 2)) rfl (by omega) (by omega); omega)) dL_law_219 ?_
  have hI0 := hI
  have hPq := hP.perm List.perm_append_comm
  have hDq := hD.perm List.perm_append_comm
  have hPc := hPq.left
  have hDc := hDq.left
  have hFc := va_freeR hDq hS hA
  refine va_calli (va_runV (As := [.int (xs ((i3 + 1) : Int32).toNatClampNeg), .int (xs ((i3 + 2) : Int32).toNatClampNeg)]) (rest := []) ⟨hx, hb, hml, hown, ha⟩ (m_send l D cI cJ cZ cO _ m0 mq mi ma 0 (cl + 1) (xs ((i3 + 1) : Int32).toNatClampNeg) (xs ((i3 + 2) : Int32).toNatClampNeg) hI) (cwV 2 ha (gaV kl_L_27 km_X11_send ks_X11_send kz_X11 kd_X11_send) rfl rfl rfl (by decide +kernel) ⟨Nat.le_of_ble_eq_true rfl, Nat.le_of_ble_eq_true rfl⟩) ⟨pw_blind, va_recv hK hPc (ci := 11) (q0 := 0) rfl rfl, fun U hU hW => ⟨rfl, pw_start hU hW hPc hK hDc hN⟩⟩ rfl rfl hl.1 rfl (lv_room (Nat.le_of_ble_eq_true rfl)) dL_law_220 ⟨show (63 + 2 * T + 13 * (k + 1)) + 0 ≤ 600000 by omega, show (1250718 + 11 * T + 100 * (k + 1)) + 0 ≤ 7302250 by omega⟩) hS (fun q _ h => hFc q h) hFc (fun r_2 um t H1 locs ht hvm hw hB hz1 hk1 hS => ?_)
  obtain ⟨mi2, ma2, hf, hP1, hK1, hD1⟩ := hB
  rw [ht] at hP1
  obtain ⟨hP, hD⟩ := va_joinR hPq hDq hk1 hFc hP1 hD1
  have hP := hP.perm List.perm_append_comm
  have hD := hD.perm List.perm_append_comm
  have hI : MI 0 cl mi2 ma2 := MI_cl hf.1.1
  have hY : RLq n uc nw ov tf FV2 FJ2 go gq gw ga mi2 ma2 := by rw [hcf.1, hcf.2, hf.2.1, hf.2.2]; exact RLq_send hY hI0.1 hr_1
  clear hPq hDq hPc hDc hP1 hD1 hK1
  generalize H1 = H at hP hS ⊢
  have hr_2 := hw
  refine lv_pop hx hb dL_law_223 rfl ?_
  refine lv_goto (tgt := 451) hx hb dL_law_224 (by decide) ?_
  exact law_tail l C0 hL D cI cJ cZ cO hK hN b0 m0 mq k (by omega) hLP n uc T nw ov tf FV2 FJ2 go gq gw ga ws mi2 ma2 cl _ _ hC hcl hI hY hP hD hS _ _ (by omega) (by omega) i3 hi ls (lv_sub hl [0, 1, 2, 3] rfl)
set_option maxHeartbeats 4000000 in
set_option maxRecDepth 100000 in
theorem law_case3 {p : Program} {e : Env} {s : State} {m : MethodId} {below : List Frame} {meth : Method} {c : Code} (l : Launch) {b L0 : Nat} {xs : Nat → Int32} (C0 : lw_At p s m meth c b L0 xs) (hL : L0 ≤ 2560) (D : va_G) (cI cJ cZ cO : ClassId) (hK : va_K D vwCl (pw_ty cI cJ cZ cO) s) (hN : nw s) (b0 m0 : Nat) (mq : Nat → Nat) (k : Nat) (hk : 5 * k + 5 ≤ L0) (hLP : LWP p l e s m below meth c D cI cJ cZ cO b b0 m0 mq (k + 1)) (n : Nat) (FX : Nat → Nat → Int32) (T : Nat) (nw : Int32) (ov tf : Nat → Int32) (FV : Nat → Nat → Nat → Int32) (FJ : Nat → Nat → Nat → Int64) (go : Option S4) (gq : List S3) (gw : List S4) (ga : List A6) (ws : va_W) (mi : Nat → Int32) (ma : Nat → Nat → Int32) (cl : Int) (H : Heap) (locs : List Loc) (hC : CWd cI cJ cO b0 n FX T nw ov tf FV FJ go gq gw ga ws) (hcl : cl = 512 - ((k + 1 : Nat) : Int)) (hI : MI 0 (cl + 1) mi ma) (hY : RLq n FX nw ov tf FV FJ go gq gw ga mi ma) (hP : va_P D vwCl (ws ++ mw cI cZ m0 mq mi ma) H) (hD : va_D (fun q : Nat => s.heap.size ≤ q) (ws ++ mw cI cZ m0 mq mi ma)) (hS : va_S (fun q : Nat => s.heap.size ≤ q) s.heap H locs) (ls : Array Slot) (hl : lv_has ls 4 [(0, .ref b), (1, .ref b0), (2, .ref m0), (3, .int (nI (5 * k)))]) : W p l e room_1 s m #[Value.ref b] below meth c H locs (63 + 2 * T + 13 * k) (1250718 + 11 * T + 100 * k) (lw_Z below #[Value.ref b] s) (F0 m 227 ls []) := by
  obtain ⟨hx, hb, hr, hml, hown, hts0, hX, hbl, hlocks, hgv⟩ := id C0
  have ha : ∀ w ∈ wsL_law, w.before #[Value.ref b] s = true := fun w h => hts0 w (wsL_law_in w h)
  have hA : ∀ q : Nat, s.heap.size ≤ q → (fun q : Nat => s.heap.size ≤ q) q := fun _ h => h
  have hbA : ¬ (fun q : Nat => s.heap.size ≤ q) b := Nat.not_le.mpr hbl
  obtain ⟨i3, hi⟩ : ∃ y, y = nI (5 * k) := ⟨_, rfl⟩
  rw [← hi] at hl
  have ti : i3.toInt = 5 * (k : Int) := by
    rw [hi, nI_toInt (by omega)]
    omega
  have hT8 := CWd_T hC
  have kc_1 := tk_1
  have kc_2 := tk_2
  have kc_3 := tk_3
  have kc_4 := tk_4
  refine lv_aload_n hx hb dL_law_227 rfl (lv_at hl 1 rfl) ?_
  refine lv_aload_n hx hb dL_law_228 rfl (lv_at hl 0 rfl) ?_
  refine lv_iload_n hx hb dL_law_229 rfl (lv_at hl 3 rfl) ?_
  refine lv_iconst (v := 1) hx hb dL_law_230 (by decide) ?_
  refine lv_iadd hx hb dL_law_231 ?_
  refine va_sld hx hb hX hbl hbA hS (vpi_of (by have t9 := ti_add (x := (i3 + 1)) rfl (by omega) (by omega); omega) (by have t9 := ti_add (x := (i3 + 1)) rfl (by omega) (by omega); omega)) dL_law_232 ?_
  refine lv_aload_n hx hb dL_law_233 rfl (lv_at hl 0 rfl) ?_
  refine lv_iload_n hx hb dL_law_234 rfl (lv_at hl 3 rfl) ?_
  refine lv_iconst (v := 2) hx hb dL_law_235 (by decide) ?_
  refine lv_iadd hx hb dL_law_236 ?_
  refine va_sld hx hb hX hbl hbA hS (vpi_of (by have t9 := ti_add (x := (i3 + 2)) rfl (by omega) (by omega); omega) (by have t9 := ti_add (x := (i3 + 2)) rfl (by omega) (by omega); omega)) dL_law_237 ?_
  obtain ⟨fl, fa, r0, r1, r2, r3, r4, r5, ol, cf, cx, zn, xl, tag, L, kd, pi, bd, af, bo, hws, hn, hR, hPB, hZ, hT, hLK, hq0, htot, hTe, hTI, hG, hJB⟩ := hC
  subst hws
  have hn9 := hn
  have hPc := hP.left
  have hDc := hD.left
  have hFc := va_freeR hD hS hA
  refine va_calli (va_runV (As := [.int (xs ((i3 + 1) : Int32).toNatClampNeg), .int (xs ((i3 + 2) : Int32).toNatClampNeg)]) (rest := []) ⟨hx, hb, hml, hown, ha⟩ (s_window l D cI cJ cZ cO _ b0 fl nw n fa FX FV FJ hn r0 r1 r2 r3 r4 r5 ov ol cf cx zn xl tag L kd pi bd af bo go gq gw ga tf (xs ((i3 + 1) : Int32).toNatClampNeg) (xs ((i3 + 2) : Int32).toNatClampNeg)) (cwV 2 ha (gaV kl_L_28 km_X10_window ks_X10_window kz_X10 kd_X10_window) rfl rfl rfl (by decide +kernel) ⟨Nat.le_of_ble_eq_true rfl, Nat.le_of_ble_eq_true rfl⟩) ⟨pw_blind, va_recv hK hPc (ci := 10) (q0 := 0) rfl rfl, fun U hU hW => ⟨rfl, pw_start hU hW hPc hK hDc hN⟩⟩ rfl rfl hl.1 rfl (lv_room (Nat.le_of_ble_eq_true rfl)) dL_law_238 ⟨show (63 + 2 * T + 13 * k) + 0 ≤ 600000 by omega, show (1250718 + 11 * T + 100 * k) + 0 ≤ 7302250 by omega⟩) hS (fun q _ h => hFc q h) hFc (fun r_1 uc t H1 locs ht hvm hw hB hz1 hk1 hS => ?_)
  obtain ⟨FV2, FJ2, hcf, hP1, hK1, hD1⟩ := hB
  rw [ht] at hP1
  obtain ⟨hP, hD⟩ := va_joinR hP hD hk1 hFc hP1 hD1
  generalize H1 = H at hP hS ⊢
  have hC : CWd cI cJ cO b0 n uc T nw ov tf FV2 FJ2 go gq gw ga (([(b0, cbC r0 fl nw), (fl, flC cO n fa), (r0, rdC ov (va_rf ol) r1 r2 r3 r4 r5), (r1, chC cf cx zn 0), (r2, chC cf cx zn 1), (r3, chC cf cx zn 2), (r4, chC cf cx zn 3), (r5, tlC cI tf)] ++ va_pl L (pf cJ kd pi bd af bo)) ++ fls cJ fa uc FV2 FJ2 n) := ⟨fl, fa, r0, r1, r2, r3, r4, r5, ol, cf, cx, zn, xl, tag, L, kd, pi, bd, af, bo, rfl, hn, hR, hPB, hZ, hT, hLK, hq0, htot, hTe, hTI, hG, hJB⟩
  clear hPc hDc hP1 hD1 hK1
  generalize (([(b0, cbC r0 fl nw), (fl, flC cO n fa), (r0, rdC ov (va_rf ol) r1 r2 r3 r4 r5), (r1, chC cf cx zn 0), (r2, chC cf cx zn 1), (r3, chC cf cx zn 2), (r4, chC cf cx zn 3), (r5, tlC cI tf)] ++ va_pl L (pf cJ kd pi bd af bo)) ++ fls cJ fa uc FV2 FJ2 n) = ws at hC hP hD
  refine W.widen (k := (63 + 2 * T + 13 * (k + 1))) (n := (1250718 + 11 * T + 100 * (k + 1))) (by omega) (by omega) ?_
  have hr_1 := hw
  refine lv_pop hx hb dL_law_241 rfl ?_
  refine lv_aload_n hx hb dL_law_242 rfl (lv_at hl 2 rfl) ?_
  refine lv_aload_n hx hb dL_law_243 rfl (lv_at hl 0 rfl) ?_
  refine lv_iload_n hx hb dL_law_244 rfl (lv_at hl 3 rfl) ?_
  refine lv_iconst (v := 1) hx hb dL_law_245 (by decide) ?_
  refine lv_iadd hx hb dL_law_246 ?_
  refine va_sld hx hb hX hbl hbA hS (vpi_of (by have t9 := ti_add (x := (i3 + 1)) rfl (by omega) (by omega); omega) (by have t9 := ti_add (x := (i3 + 1)) rfl (by omega) (by omega); omega)) dL_law_247 ?_
  refine lv_aload_n hx hb dL_law_248 rfl (lv_at hl 0 rfl) ?_
  refine lv_iload_n hx hb dL_law_249 rfl (lv_at hl 3 rfl) ?_
  refine lv_iconst (v := 2) hx hb dL_law_250 (by decide) ?_
  refine lv_iadd hx hb dL_law_251 ?_
  refine va_sld hx hb hX hbl hbA hS (vpi_of (by have t9 := ti_add (x := (i3 + 2)) rfl (by omega) (by omega); omega) (by have t9 := ti_add (x := (i3 + 2)) rfl (by omega) (by omega); omega)) dL_law_252 ?_
  have hI0 := hI
  have hPq := hP.perm List.perm_append_comm
  have hDq := hD.perm List.perm_append_comm
  have hPc := hPq.left
  have hDc := hDq.left
  have hFc := va_freeR hDq hS hA
  refine va_calli (va_runV (As := [.int (xs ((i3 + 1) : Int32).toNatClampNeg), .int (xs ((i3 + 2) : Int32).toNatClampNeg)]) (rest := []) ⟨hx, hb, hml, hown, ha⟩ (m_window l D cI cJ cZ cO _ m0 mq mi ma 0 cl (xs ((i3 + 1) : Int32).toNatClampNeg) (xs ((i3 + 2) : Int32).toNatClampNeg) hI) (cwV 2 ha (gaV kl_L_31 km_X11_window ks_X11_window kz_X11 kd_X11_window) rfl rfl rfl (by decide +kernel) ⟨Nat.le_of_ble_eq_true rfl, Nat.le_of_ble_eq_true rfl⟩) ⟨pw_blind, va_recv hK hPc (ci := 11) (q0 := 0) rfl rfl, fun U hU hW => ⟨rfl, pw_start hU hW hPc hK hDc hN⟩⟩ rfl rfl hl.1 rfl (lv_room (Nat.le_of_ble_eq_true rfl)) dL_law_253 ⟨show (63 + 2 * T + 13 * (k + 1)) + 0 ≤ 600000 by omega, show (1250718 + 11 * T + 100 * (k + 1)) + 0 ≤ 7302250 by omega⟩) hS (fun q _ h => hFc q h) hFc (fun r_2 um t H1 locs ht hvm hw hB hz1 hk1 hS => ?_)
  obtain ⟨mi2, ma2, hf, hP1, hK1, hD1⟩ := hB
  rw [ht] at hP1
  obtain ⟨hP, hD⟩ := va_joinR hPq hDq hk1 hFc hP1 hD1
  have hP := hP.perm List.perm_append_comm
  have hD := hD.perm List.perm_append_comm
  have hI : MI 0 cl mi2 ma2 := hf.1.1
  have hY : RLq n uc nw ov tf FV2 FJ2 go gq gw ga mi2 ma2 := by rw [hcf.1, hcf.2, hf.2.1, hf.2.2]; exact RLq_window hY hr_1
  clear hPq hDq hPc hDc hP1 hD1 hK1
  generalize H1 = H at hP hS ⊢
  have hr_2 := hw
  refine lv_pop hx hb dL_law_256 rfl ?_
  refine lv_goto (tgt := 451) hx hb dL_law_257 (by decide) ?_
  exact law_tail l C0 hL D cI cJ cZ cO hK hN b0 m0 mq k (by omega) hLP n uc T nw ov tf FV2 FJ2 go gq gw ga ws mi2 ma2 cl _ _ hC hcl hI hY hP hD hS _ _ (by omega) (by omega) i3 hi ls (lv_sub hl [0, 1, 2, 3] rfl)
set_option maxHeartbeats 4000000 in
set_option maxRecDepth 100000 in
theorem law_case4 {p : Program} {e : Env} {s : State} {m : MethodId} {below : List Frame} {meth : Method} {c : Code} (l : Launch) {b L0 : Nat} {xs : Nat → Int32} (C0 : lw_At p s m meth c b L0 xs) (hL : L0 ≤ 2560) (D : va_G) (cI cJ cZ cO : ClassId) (hK : va_K D vwCl (pw_ty cI cJ cZ cO) s) (hN : nw s) (b0 m0 : Nat) (mq : Nat → Nat) (k : Nat) (hk : 5 * k + 5 ≤ L0) (hLP : LWP p l e s m below meth c D cI cJ cZ cO b b0 m0 mq (k + 1)) (n : Nat) (FX : Nat → Nat → Int32) (T : Nat) (nw : Int32) (ov tf : Nat → Int32) (FV : Nat → Nat → Nat → Int32) (FJ : Nat → Nat → Nat → Int64) (go : Option S4) (gq : List S3) (gw : List S4) (ga : List A6) (ws : va_W) (mi : Nat → Int32) (ma : Nat → Nat → Int32) (cl : Int) (H : Heap) (locs : List Loc) (hC : CWd cI cJ cO b0 n FX T nw ov tf FV FJ go gq gw ga ws) (hcl : cl = 512 - ((k + 1 : Nat) : Int)) (hI : MI 0 (cl + 1) mi ma) (hY : RLq n FX nw ov tf FV FJ go gq gw ga mi ma) (hP : va_P D vwCl (ws ++ mw cI cZ m0 mq mi ma) H) (hD : va_D (fun q : Nat => s.heap.size ≤ q) (ws ++ mw cI cZ m0 mq mi ma)) (hS : va_S (fun q : Nat => s.heap.size ≤ q) s.heap H locs) (ls : Array Slot) (hl : lv_has ls 4 [(0, .ref b), (1, .ref b0), (2, .ref m0), (3, .int (nI (5 * k)))]) : W p l e room_1 s m #[Value.ref b] below meth c H locs (63 + 2 * T + 13 * k) (1250718 + 11 * T + 100 * k) (lw_Z below #[Value.ref b] s) (F0 m 260 ls []) := by
  obtain ⟨hx, hb, hr, hml, hown, hts0, hX, hbl, hlocks, hgv⟩ := id C0
  have ha : ∀ w ∈ wsL_law, w.before #[Value.ref b] s = true := fun w h => hts0 w (wsL_law_in w h)
  have hA : ∀ q : Nat, s.heap.size ≤ q → (fun q : Nat => s.heap.size ≤ q) q := fun _ h => h
  have hbA : ¬ (fun q : Nat => s.heap.size ≤ q) b := Nat.not_le.mpr hbl
  obtain ⟨i3, hi⟩ : ∃ y, y = nI (5 * k) := ⟨_, rfl⟩
  rw [← hi] at hl
  have ti : i3.toInt = 5 * (k : Int) := by
    rw [hi, nI_toInt (by omega)]
    omega
  have hT8 := CWd_T hC
  have kc_1 := tk_1
  have kc_2 := tk_2
  have kc_3 := tk_3
  have kc_4 := tk_4
  refine lv_aload_n hx hb dL_law_260 rfl (lv_at hl 1 rfl) ?_
  refine lv_aload_n hx hb dL_law_261 rfl (lv_at hl 0 rfl) ?_
  refine lv_iload_n hx hb dL_law_262 rfl (lv_at hl 3 rfl) ?_
  refine lv_iconst (v := 1) hx hb dL_law_263 (by decide) ?_
  refine lv_iadd hx hb dL_law_264 ?_
  refine va_sld hx hb hX hbl hbA hS (vpi_of (by have t9 := ti_add (x := (i3 + 1)) rfl (by omega) (by omega); omega) (by have t9 := ti_add (x := (i3 + 1)) rfl (by omega) (by omega); omega)) dL_law_265 ?_
  obtain ⟨fl, fa, r0, r1, r2, r3, r4, r5, ol, cf, cx, zn, xl, tag, L, kd, pi, bd, af, bo, hws, hn, hR, hPB, hZ, hT, hLK, hq0, htot, hTe, hTI, hG, hJB⟩ := hC
  subst hws
  have hn9 := hn
  have hp0 := perm_idx (X := [(b0, cbC r0 fl nw), (fl, flC cO n fa), (r0, rdC ov (va_rf ol) r1 r2 r3 r4 r5), (r1, chC cf cx zn 0), (r2, chC cf cx zn 1), (r3, chC cf cx zn 2), (r4, chC cf cx zn 3), (r5, tlC cI tf)]) (Y := [(b0, cbC r0 fl nw), (r0, rdC ov (va_rf ol) r1 r2 r3 r4 r5), (r5, tlC cI tf)] ++ [(fl, flC cO n fa), (r1, chC cf cx zn 0), (r2, chC cf cx zn 1), (r3, chC cf cx zn 2), (r4, chC cf cx zn 3)]) (N := 8) [0, 2, 7, 1, 3, 4, 5, 6] rfl rfl (by decide)
  have hPq := hP.perm (pmL (cx := [(b0, cbC r0 fl nw), (r0, rdC ov (va_rf ol) r1 r2 r3 r4 r5), (r5, tlC cI tf)]) (xr := [(fl, flC cO n fa), (r1, chC cf cx zn 0), (r2, chC cf cx zn 1), (r3, chC cf cx zn 2), (r4, chC cf cx zn 3)]) (pl := va_pl L (pf cJ kd pi bd af bo)) (R := fls cJ fa FX FV FJ n) (M := mw cI cZ m0 mq mi ma) hp0)
  have hDq := hD.perm (pmL (cx := [(b0, cbC r0 fl nw), (r0, rdC ov (va_rf ol) r1 r2 r3 r4 r5), (r5, tlC cI tf)]) (xr := [(fl, flC cO n fa), (r1, chC cf cx zn 0), (r2, chC cf cx zn 1), (r3, chC cf cx zn 2), (r4, chC cf cx zn 3)]) (pl := va_pl L (pf cJ kd pi bd af bo)) (R := fls cJ fa FX FV FJ n) (M := mw cI cZ m0 mq mi ma) hp0)
  have hPc := hPq.left
  have hDc := hDq.left
  have hFc := va_freeR hDq hS hA
  refine va_calli (va_runV (As := [.int (xs ((i3 + 1) : Int32).toNatClampNeg)]) (rest := []) ⟨hx, hb, hml, hown, ha⟩ (s_lose l D cI cJ cZ cO _ b0 fl nw r0 r1 r2 r3 r4 r5 ov tf ol (xs ((i3 + 1) : Int32).toNatClampNeg) hT) (cwV 1 ha (gaV kl_L_32 km_X10_lose ks_X10_lose kz_X10 kd_X10_lose) rfl rfl rfl (by decide +kernel) ⟨Nat.le_of_ble_eq_true rfl, Nat.le_of_ble_eq_true rfl⟩) ⟨pw_blind, va_recv hK hPc (ci := 10) (q0 := 0) rfl rfl, fun U hU hW => ⟨rfl, pw_start hU hW hPc hK hDc hN⟩⟩ rfl rfl hl.1 rfl (lv_room (Nat.le_of_ble_eq_true rfl)) dL_law_266 ⟨show (63 + 2 * T + 13 * k) + 0 ≤ 600000 by omega, show (1250718 + 11 * T + 100 * k) + 0 ≤ 7302250 by omega⟩) hS (fun q _ h => hFc q h) hFc (fun r_1 uc t H1 locs ht hvm hw hB hz1 hk1 hS => ?_)
  obtain ⟨ov2, tf2, hf, hP1, hK1, hD1⟩ := hB
  rw [ht] at hP1
  obtain ⟨hP, hD⟩ := va_joinR (w1 := [(b0, cbC r0 fl nw), (r0, rdC ov2 (va_rf ol) r1 r2 r3 r4 r5), (r5, tlC cI tf2)]) hPq hDq hk1 hFc hP1 hD1
  have hp1 := perm_idx (X := [(fl, flC cO n fa), (r1, chC cf cx zn 0), (r2, chC cf cx zn 1), (r3, chC cf cx zn 2), (r4, chC cf cx zn 3)] ++ [(b0, cbC r0 fl nw), (r0, rdC ov2 (va_rf ol) r1 r2 r3 r4 r5), (r5, tlC cI tf2)]) (Y := [(b0, cbC r0 fl nw), (fl, flC cO n fa), (r0, rdC ov2 (va_rf ol) r1 r2 r3 r4 r5), (r1, chC cf cx zn 0), (r2, chC cf cx zn 1), (r3, chC cf cx zn 2), (r4, chC cf cx zn 3), (r5, tlC cI tf2)]) (N := 8) [5, 0, 6, 1, 2, 3, 4, 7] rfl rfl (by decide)
  have hP := hP.perm (pmLb (X2 := [(b0, cbC r0 fl nw), (fl, flC cO n fa), (r0, rdC ov2 (va_rf ol) r1 r2 r3 r4 r5), (r1, chC cf cx zn 0), (r2, chC cf cx zn 1), (r3, chC cf cx zn 2), (r4, chC cf cx zn 3), (r5, tlC cI tf2)]) (xr := [(fl, flC cO n fa), (r1, chC cf cx zn 0), (r2, chC cf cx zn 1), (r3, chC cf cx zn 2), (r4, chC cf cx zn 3)]) (w1 := [(b0, cbC r0 fl nw), (r0, rdC ov2 (va_rf ol) r1 r2 r3 r4 r5), (r5, tlC cI tf2)]) (pl := va_pl L (pf cJ kd pi bd af bo)) (R := fls cJ fa FX FV FJ n) (M := mw cI cZ m0 mq mi ma) hp1)
  have hD := hD.perm (pmLb (X2 := [(b0, cbC r0 fl nw), (fl, flC cO n fa), (r0, rdC ov2 (va_rf ol) r1 r2 r3 r4 r5), (r1, chC cf cx zn 0), (r2, chC cf cx zn 1), (r3, chC cf cx zn 2), (r4, chC cf cx zn 3), (r5, tlC cI tf2)]) (xr := [(fl, flC cO n fa), (r1, chC cf cx zn 0), (r2, chC cf cx zn 1), (r3, chC cf cx zn 2), (r4, chC cf cx zn 3)]) (w1 := [(b0, cbC r0 fl nw), (r0, rdC ov2 (va_rf ol) r1 r2 r3 r4 r5), (r5, tlC cI tf2)]) (pl := va_pl L (pf cJ kd pi bd af bo)) (R := fls cJ fa FX FV FJ n) (M := mw cI cZ m0 mq mi ma) hp1)
  clear hp0 hp1 hPq hDq
  generalize H1 = H at hP hS ⊢
  have hcf := hf
  have hC : CWd cI cJ cO b0 n FX T nw ov2 tf2 FV FJ go gq gw ga (([(b0, cbC r0 fl nw), (fl, flC cO n fa), (r0, rdC ov2 (va_rf ol) r1 r2 r3 r4 r5), (r1, chC cf cx zn 0), (r2, chC cf cx zn 1), (r3, chC cf cx zn 2), (r4, chC cf cx zn 3), (r5, tlC cI tf2)] ++ va_pl L (pf cJ kd pi bd af bo)) ++ fls cJ fa FX FV FJ n) := ⟨fl, fa, r0, r1, r2, r3, r4, r5, ol, cf, cx, zn, xl, tag, L, kd, pi, bd, af, bo, rfl, hn, hR, hPB, hZ, hf.1.1, ⟨by rw [hf.1.2.1]; exact hLK.1, by rw [hf.1.2.2.1]; exact hLK.2.1, by rw [hf.1.2.2.2]; exact hLK.2.2⟩, hq0, htot, hTe, hTI, hG, hJB⟩
  clear hPc hDc hP1 hD1 hK1
  generalize (([(b0, cbC r0 fl nw), (fl, flC cO n fa), (r0, rdC ov2 (va_rf ol) r1 r2 r3 r4 r5), (r1, chC cf cx zn 0), (r2, chC cf cx zn 1), (r3, chC cf cx zn 2), (r4, chC cf cx zn 3), (r5, tlC cI tf2)] ++ va_pl L (pf cJ kd pi bd af bo)) ++ fls cJ fa FX FV FJ n) = ws at hC hP hD
  refine W.widen (k := (63 + 2 * T + 13 * (k + 1))) (n := (1250718 + 11 * T + 100 * (k + 1))) (by omega) (by omega) ?_
  have hr_1 := hw
  refine lv_pop hx hb dL_law_269 rfl ?_
  refine lv_aload_n hx hb dL_law_270 rfl (lv_at hl 2 rfl) ?_
  refine lv_aload_n hx hb dL_law_271 rfl (lv_at hl 0 rfl) ?_
  refine lv_iload_n hx hb dL_law_272 rfl (lv_at hl 3 rfl) ?_
  refine lv_iconst (v := 1) hx hb dL_law_273 (by decide) ?_
  refine lv_iadd hx hb dL_law_274 ?_
  refine va_sld hx hb hX hbl hbA hS (vpi_of (by have t9 := ti_add (x := (i3 + 1)) rfl (by omega) (by omega); omega) (by have t9 := ti_add (x := (i3 + 1)) rfl (by omega) (by omega); omega)) dL_law_275 ?_
  have hI0 := hI
  have hPq := hP.perm List.perm_append_comm
  have hDq := hD.perm List.perm_append_comm
  have hPc := hPq.left
  have hDc := hDq.left
  have hFc := va_freeR hDq hS hA
  refine va_calli (va_runV (As := [.int (xs ((i3 + 1) : Int32).toNatClampNeg)]) (rest := []) ⟨hx, hb, hml, hown, ha⟩ (m_lose l D cI cJ cZ cO _ m0 mq mi ma 0 (cl + 1) (xs ((i3 + 1) : Int32).toNatClampNeg) hI) (cwV 1 ha (gaV kl_L_36 km_X11_lose ks_X11_lose kz_X11 kd_X11_lose) rfl rfl rfl (by decide +kernel) ⟨Nat.le_of_ble_eq_true rfl, Nat.le_of_ble_eq_true rfl⟩) ⟨pw_blind, va_recv hK hPc (ci := 11) (q0 := 0) rfl rfl, fun U hU hW => ⟨rfl, pw_start hU hW hPc hK hDc hN⟩⟩ rfl rfl hl.1 rfl (lv_room (Nat.le_of_ble_eq_true rfl)) dL_law_276 ⟨show (63 + 2 * T + 13 * (k + 1)) + 0 ≤ 600000 by omega, show (1250718 + 11 * T + 100 * (k + 1)) + 0 ≤ 7302250 by omega⟩) hS (fun q _ h => hFc q h) hFc (fun r_2 um t H1 locs ht hvm hw hB hz1 hk1 hS => ?_)
  obtain ⟨mi2, ma2, hf, hP1, hK1, hD1⟩ := hB
  rw [ht] at hP1
  obtain ⟨hP, hD⟩ := va_joinR hPq hDq hk1 hFc hP1 hD1
  have hP := hP.perm List.perm_append_comm
  have hD := hD.perm List.perm_append_comm
  have hI : MI 0 cl mi2 ma2 := MI_cl hf.1.1
  have hY : RLq n FX nw ov2 tf2 FV FJ go gq gw ga mi2 ma2 := by rw [hcf.2.1, hcf.2.2, hf.2.1, hf.2.2]; exact RLq_lose hY hI0.1
  clear hPq hDq hPc hDc hP1 hD1 hK1
  generalize H1 = H at hP hS ⊢
  have hr_2 := hw
  refine lv_pop hx hb dL_law_279 rfl ?_
  refine lv_goto (tgt := 451) hx hb dL_law_280 (by decide) ?_
  exact law_tail l C0 hL D cI cJ cZ cO hK hN b0 m0 mq k (by omega) hLP n FX T nw ov2 tf2 FV FJ go gq gw ga ws mi2 ma2 cl _ _ hC hcl hI hY hP hD hS _ _ (by omega) (by omega) i3 hi ls (lv_sub hl [0, 1, 2, 3] rfl)
set_option maxHeartbeats 4000000 in
set_option maxRecDepth 100000 in
theorem law_case5 {p : Program} {e : Env} {s : State} {m : MethodId} {below : List Frame} {meth : Method} {c : Code} (l : Launch) {b L0 : Nat} {xs : Nat → Int32} (C0 : lw_At p s m meth c b L0 xs) (hL : L0 ≤ 2560) (D : va_G) (cI cJ cZ cO : ClassId) (hK : va_K D vwCl (pw_ty cI cJ cZ cO) s) (hN : nw s) (b0 m0 : Nat) (mq : Nat → Nat) (k : Nat) (hk : 5 * k + 5 ≤ L0) (hLP : LWP p l e s m below meth c D cI cJ cZ cO b b0 m0 mq (k + 1)) (n : Nat) (FX : Nat → Nat → Int32) (T : Nat) (nw : Int32) (ov tf : Nat → Int32) (FV : Nat → Nat → Nat → Int32) (FJ : Nat → Nat → Nat → Int64) (go : Option S4) (gq : List S3) (gw : List S4) (ga : List A6) (ws : va_W) (mi : Nat → Int32) (ma : Nat → Nat → Int32) (cl : Int) (H : Heap) (locs : List Loc) (hC : CWd cI cJ cO b0 n FX T nw ov tf FV FJ go gq gw ga ws) (hcl : cl = 512 - ((k + 1 : Nat) : Int)) (hI : MI 0 (cl + 1) mi ma) (hY : RLq n FX nw ov tf FV FJ go gq gw ga mi ma) (hP : va_P D vwCl (ws ++ mw cI cZ m0 mq mi ma) H) (hD : va_D (fun q : Nat => s.heap.size ≤ q) (ws ++ mw cI cZ m0 mq mi ma)) (hS : va_S (fun q : Nat => s.heap.size ≤ q) s.heap H locs) (ls : Array Slot) (hl : lv_has ls 4 [(0, .ref b), (1, .ref b0), (2, .ref m0), (3, .int (nI (5 * k)))]) : W p l e room_1 s m #[Value.ref b] below meth c H locs (63 + 2 * T + 13 * k) (1250718 + 11 * T + 100 * k) (lw_Z below #[Value.ref b] s) (F0 m 283 ls []) := by
  obtain ⟨hx, hb, hr, hml, hown, hts0, hX, hbl, hlocks, hgv⟩ := id C0
  have ha : ∀ w ∈ wsL_law, w.before #[Value.ref b] s = true := fun w h => hts0 w (wsL_law_in w h)
  have hA : ∀ q : Nat, s.heap.size ≤ q → (fun q : Nat => s.heap.size ≤ q) q := fun _ h => h
  have hbA : ¬ (fun q : Nat => s.heap.size ≤ q) b := Nat.not_le.mpr hbl
  obtain ⟨i3, hi⟩ : ∃ y, y = nI (5 * k) := ⟨_, rfl⟩
  rw [← hi] at hl
  have ti : i3.toInt = 5 * (k : Int) := by
    rw [hi, nI_toInt (by omega)]
    omega
  have hT8 := CWd_T hC
  have kc_1 := tk_1
  have kc_2 := tk_2
  have kc_3 := tk_3
  have kc_4 := tk_4
  refine lv_aload_n hx hb dL_law_283 rfl (lv_at hl 1 rfl) ?_
  refine lv_aload_n hx hb dL_law_284 rfl (lv_at hl 0 rfl) ?_
  refine lv_iload_n hx hb dL_law_285 rfl (lv_at hl 3 rfl) ?_
  refine lv_iconst (v := 1) hx hb dL_law_286 (by decide) ?_
  refine lv_iadd hx hb dL_law_287 ?_
  refine va_sld hx hb hX hbl hbA hS (vpi_of (by have t9 := ti_add (x := (i3 + 1)) rfl (by omega) (by omega); omega) (by have t9 := ti_add (x := (i3 + 1)) rfl (by omega) (by omega); omega)) dL_law_288 ?_
  obtain ⟨fl, fa, r0, r1, r2, r3, r4, r5, ol, cf, cx, zn, xl, tag, L, kd, pi, bd, af, bo, hws, hn, hR, hPB, hZ, hT, hLK, hq0, htot, hTe, hTI, hG, hJB⟩ := hC
  subst hws
  have hn9 := hn
  have hPc := hP.left
  have hDc := hD.left
  have hFc := va_freeR hD hS hA
  refine W.know2 (fun hka hkb => ?_)
  have hle0 := hS.1
  refine va_calli (va_runV (As := [.int (xs ((i3 + 1) : Int32).toNatClampNeg)]) (rest := []) ⟨hx, hb, hml, hown, ha⟩ (s_run l D cI cJ cZ cO _ b0 fl nw n fa FX FV FJ hn r0 r1 r2 r3 r4 r5 ov ol cf cx zn xl tag L kd pi bd af bo go gq gw ga tf (xs ((i3 + 1) : Int32).toNatClampNeg) hR hPB hZ hG hJB hT hLK hq0 htot hTI) (cwV 1 ha (gaV kl_L_37 km_X10_run ks_X10_run kz_X10 kd_X10_run) rfl rfl rfl (by decide +kernel) ⟨Nat.le_of_ble_eq_true rfl, Nat.le_of_ble_eq_true rfl⟩) ⟨pw_blindh, va_recv hK hPc (ci := 10) (q0 := 0) rfl rfl, fun U hU hW => ⟨rfl, pw_starth hU hW hPc hK hDc hN⟩⟩ rfl rfl hl.1 rfl (lv_room (Nat.le_of_ble_eq_true rfl)) dL_law_289 ⟨show (63 + 2 * T + 13 * k) + 48100 ≤ 600000 by omega, show (1250718 + 11 * T + 100 * k) + 264300 ≤ 7302250 by omega⟩) hS (fun q _ h => hFc q h) hFc (fun r_1 uc t H1 locs ht hvm hw hB hz1 hk1 hS => ?_)
  obtain ⟨nw2, ov2, tf2, ol2, cf2, cx2, zn2, xl2, tag2, L2, kd2, pi2, bd2, af2, bo2, b2, go2, gq2, gw2, ga2, FV2, FJ2, hf, hP1, hK1, hD1⟩ := hB
  rw [ht] at hP1 hf
  obtain ⟨hP, hD⟩ := va_joinR hP hD hk1 hFc hP1 hD1
  obtain ⟨⟨fR, fPB, fZ, fT, fg, fLK, fq0, ft1, ft2, fTI⟩, ⟨fG, fJ⟩, e_1, e_2, e_3, e_4, e_5, e_6, e_7, e_8, e_9⟩ := hf
  have g9 := fg.2 s.heap.size hle0
  have g8 := hkb s.heap.size (Nat.le_refl _)
  rw [hsl_end] at g8
  have g7 := fg.1
  obtain ⟨T2, hT2⟩ : ∃ y, y = T + b2 := ⟨_, rfl⟩
  refine W.tight (k := 63 + 2 * T2 + 13 * (k + 1)) (n := 1250718 + 11 * T2 + 100 * (k + 1)) (by omega) (by omega) ?_
  clear g9 g8 g7 fg hkb hka
  generalize H1 = H at hP hS ⊢
  have hC : CWd cI cJ cO b0 n FX T2 nw2 ov2 tf2 FV2 FJ2 go2 gq2 gw2 ga2 (([(b0, cbC r0 fl nw2), (fl, flC cO n fa), (r0, rdC ov2 (va_rf ol2) r1 r2 r3 r4 r5), (r1, chC cf2 cx2 zn2 0), (r2, chC cf2 cx2 zn2 1), (r3, chC cf2 cx2 zn2 2), (r4, chC cf2 cx2 zn2 3), (r5, tlC cI tf2)] ++ va_pl L2 (pf cJ kd2 pi2 bd2 af2 bo2)) ++ fls cJ fa FX FV2 FJ2 n) := ⟨fl, fa, r0, r1, r2, r3, r4, r5, ol2, cf2, cx2, zn2, xl2, tag2, L2, kd2, pi2, bd2, af2, bo2, rfl, hn, fR, fPB, fZ, fT, fLK, fq0, ft2, (by rw [ft1, hTe, hT2]), fTI, fG, fJ⟩
  clear hPc hDc hP1 hD1 hK1
  generalize (([(b0, cbC r0 fl nw2), (fl, flC cO n fa), (r0, rdC ov2 (va_rf ol2) r1 r2 r3 r4 r5), (r1, chC cf2 cx2 zn2 0), (r2, chC cf2 cx2 zn2 1), (r3, chC cf2 cx2 zn2 2), (r4, chC cf2 cx2 zn2 3), (r5, tlC cI tf2)] ++ va_pl L2 (pf cJ kd2 pi2 bd2 af2 bo2)) ++ fls cJ fa FX FV2 FJ2 n) = ws at hC hP hD
  have hT9 : T2 ≤ 12000 := CWd_T hC
  have hr_1 := hw
  refine lv_pop hx hb dL_law_292 rfl ?_
  refine lv_aload_n hx hb dL_law_293 rfl (lv_at hl 2 rfl) ?_
  refine lv_aload_n hx hb dL_law_294 rfl (lv_at hl 0 rfl) ?_
  refine lv_iload_n hx hb dL_law_295 rfl (lv_at hl 3 rfl) ?_
  refine lv_iconst (v := 1) hx hb dL_law_296 (by decide) ?_
  refine lv_iadd hx hb dL_law_297 ?_
  refine va_sld hx hb hX hbl hbA hS (vpi_of (by have t9 := ti_add (x := (i3 + 1)) rfl (by omega) (by omega); omega) (by have t9 := ti_add (x := (i3 + 1)) rfl (by omega) (by omega); omega)) dL_law_298 ?_
  have hI0 := hI
  have hPq := hP.perm List.perm_append_comm
  have hDq := hD.perm List.perm_append_comm
  have hPc := hPq.left
  have hDc := hDq.left
  have hFc := va_freeR hDq hS hA
  refine va_calli (va_runV (As := [.int (xs ((i3 + 1) : Int32).toNatClampNeg)]) (rest := []) ⟨hx, hb, hml, hown, ha⟩ (m_run l D cI cJ cZ cO _ m0 mq mi ma 0 (cl + 1) (xs ((i3 + 1) : Int32).toNatClampNeg) hI.1 (by omega) (by omega) hI.2) (cwV 1 ha (gaV kl_L_41 km_X11_run ks_X11_run kz_X11 kd_X11_run) rfl rfl rfl (by decide +kernel) ⟨Nat.le_of_ble_eq_true rfl, Nat.le_of_ble_eq_true rfl⟩) ⟨pw_blind, va_recv hK hPc (ci := 11) (q0 := 0) rfl rfl, fun U hU hW => ⟨rfl, pw_start hU hW hPc hK hDc hN⟩⟩ rfl rfl hl.1 rfl (lv_room (Nat.le_of_ble_eq_true rfl)) dL_law_299 ⟨show (63 + 2 * T2 + 13 * (k + 1)) + 0 ≤ 600000 by omega, show (1250718 + 11 * T2 + 100 * (k + 1)) + 0 ≤ 7302250 by omega⟩) hS (fun q _ h => hFc q h) hFc (fun r_2 um t H1 locs ht hvm hw hB hz1 hk1 hS => ?_)
  obtain ⟨mi2, ma2, hf, hP1, hK1, hD1⟩ := hB
  rw [ht] at hP1
  obtain ⟨hP, hD⟩ := va_joinR hPq hDq hk1 hFc hP1 hD1
  have hP := hP.perm List.perm_append_comm
  have hD := hD.perm List.perm_append_comm
  have hI : MI 0 cl mi2 ma2 := MI_cl ⟨hf.1.1, hf.1.2.2.2⟩
  obtain ⟨rr, hrr⟩ := hf.2
  have hYe := RLq_run hY hI0.1 hrr
  have hY : RLq n FX nw2 ov2 tf2 FV2 FJ2 go2 gq2 gw2 ga2 mi2 ma2 := by rw [e_1, e_2, e_3, e_4, e_5, e_6, e_7, e_8, e_9]; exact hYe.1
  clear hPq hDq hPc hDc hP1 hD1 hK1
  generalize H1 = H at hP hS ⊢
  have hr_2 := hw
  refine lv_pop hx hb dL_law_302 rfl ?_
  refine lv_goto (tgt := 451) hx hb dL_law_303 (by decide) ?_
  exact law_tail l C0 hL D cI cJ cZ cO hK hN b0 m0 mq k (by omega) hLP n FX T2 nw2 ov2 tf2 FV2 FJ2 go2 gq2 gw2 ga2 ws mi2 ma2 cl _ _ hC hcl hI hY hP hD hS _ _ (by omega) (by omega) i3 hi ls (lv_sub hl [0, 1, 2, 3] rfl)
set_option maxHeartbeats 4000000 in
set_option maxRecDepth 100000 in
theorem law_case6 {p : Program} {e : Env} {s : State} {m : MethodId} {below : List Frame} {meth : Method} {c : Code} (l : Launch) {b L0 : Nat} {xs : Nat → Int32} (C0 : lw_At p s m meth c b L0 xs) (hL : L0 ≤ 2560) (D : va_G) (cI cJ cZ cO : ClassId) (hK : va_K D vwCl (pw_ty cI cJ cZ cO) s) (hN : nw s) (b0 m0 : Nat) (mq : Nat → Nat) (k : Nat) (hk : 5 * k + 5 ≤ L0) (hLP : LWP p l e s m below meth c D cI cJ cZ cO b b0 m0 mq (k + 1)) (n : Nat) (FX : Nat → Nat → Int32) (T : Nat) (nw : Int32) (ov tf : Nat → Int32) (FV : Nat → Nat → Nat → Int32) (FJ : Nat → Nat → Nat → Int64) (go : Option S4) (gq : List S3) (gw : List S4) (ga : List A6) (ws : va_W) (mi : Nat → Int32) (ma : Nat → Nat → Int32) (cl : Int) (H : Heap) (locs : List Loc) (hC : CWd cI cJ cO b0 n FX T nw ov tf FV FJ go gq gw ga ws) (hcl : cl = 512 - ((k + 1 : Nat) : Int)) (hI : MI 0 (cl + 1) mi ma) (hY : RLq n FX nw ov tf FV FJ go gq gw ga mi ma) (hP : va_P D vwCl (ws ++ mw cI cZ m0 mq mi ma) H) (hD : va_D (fun q : Nat => s.heap.size ≤ q) (ws ++ mw cI cZ m0 mq mi ma)) (hS : va_S (fun q : Nat => s.heap.size ≤ q) s.heap H locs) (ls : Array Slot) (hl : lv_has ls 4 [(0, .ref b), (1, .ref b0), (2, .ref m0), (3, .int (nI (5 * k)))]) : W p l e room_1 s m #[Value.ref b] below meth c H locs (63 + 2 * T + 13 * k) (1250718 + 11 * T + 100 * k) (lw_Z below #[Value.ref b] s) (F0 m 306 ls []) := by
  obtain ⟨hx, hb, hr, hml, hown, hts0, hX, hbl, hlocks, hgv⟩ := id C0
  have ha : ∀ w ∈ wsL_law, w.before #[Value.ref b] s = true := fun w h => hts0 w (wsL_law_in w h)
  have hA : ∀ q : Nat, s.heap.size ≤ q → (fun q : Nat => s.heap.size ≤ q) q := fun _ h => h
  have hbA : ¬ (fun q : Nat => s.heap.size ≤ q) b := Nat.not_le.mpr hbl
  obtain ⟨i3, hi⟩ : ∃ y, y = nI (5 * k) := ⟨_, rfl⟩
  rw [← hi] at hl
  have ti : i3.toInt = 5 * (k : Int) := by
    rw [hi, nI_toInt (by omega)]
    omega
  have hT8 := CWd_T hC
  have kc_1 := tk_1
  have kc_2 := tk_2
  have kc_3 := tk_3
  have kc_4 := tk_4
  refine lv_aload_n hx hb dL_law_306 rfl (lv_at hl 1 rfl) ?_
  refine lv_aload_n hx hb dL_law_307 rfl (lv_at hl 0 rfl) ?_
  refine lv_iload_n hx hb dL_law_308 rfl (lv_at hl 3 rfl) ?_
  refine lv_iconst (v := 1) hx hb dL_law_309 (by decide) ?_
  refine lv_iadd hx hb dL_law_310 ?_
  refine va_sld hx hb hX hbl hbA hS (vpi_of (by have t9 := ti_add (x := (i3 + 1)) rfl (by omega) (by omega); omega) (by have t9 := ti_add (x := (i3 + 1)) rfl (by omega) (by omega); omega)) dL_law_311 ?_
  refine lv_aload_n hx hb dL_law_312 rfl (lv_at hl 0 rfl) ?_
  refine lv_iload_n hx hb dL_law_313 rfl (lv_at hl 3 rfl) ?_
  refine lv_iconst (v := 2) hx hb dL_law_314 (by decide) ?_
  refine lv_iadd hx hb dL_law_315 ?_
  refine va_sld hx hb hX hbl hbA hS (vpi_of (by have t9 := ti_add (x := (i3 + 2)) rfl (by omega) (by omega); omega) (by have t9 := ti_add (x := (i3 + 2)) rfl (by omega) (by omega); omega)) dL_law_316 ?_
  obtain ⟨fl, fa, r0, r1, r2, r3, r4, r5, ol, cf, cx, zn, xl, tag, L, kd, pi, bd, af, bo, hws, hn, hR, hPB, hZ, hT, hLK, hq0, htot, hTe, hTI, hG, hJB⟩ := hC
  subst hws
  have hn9 := hn
  have hPc := hP.left
  have hDc := hD.left
  have hFc := va_freeR hD hS hA
  refine va_calli (va_runV (As := [.int (xs ((i3 + 1) : Int32).toNatClampNeg), .int (xs ((i3 + 2) : Int32).toNatClampNeg)]) (rest := []) ⟨hx, hb, hml, hown, ha⟩ (s_sender l D cI cJ cZ cO _ b0 fl nw n fa FX FV FJ hn r0 r1 r2 r3 r4 r5 ov ol cf cx zn xl tag L kd pi bd af bo go gq gw ga tf (xs ((i3 + 1) : Int32).toNatClampNeg) (xs ((i3 + 2) : Int32).toNatClampNeg)) (cwV 2 ha (gaV kl_L_42 km_X10_sender ks_X10_sender kz_X10 kd_X10_sender) rfl rfl rfl (by decide +kernel) ⟨Nat.le_of_ble_eq_true rfl, Nat.le_of_ble_eq_true rfl⟩) ⟨pw_blind, va_recv hK hPc (ci := 10) (q0 := 0) rfl rfl, fun U hU hW => ⟨rfl, pw_start hU hW hPc hK hDc hN⟩⟩ rfl rfl hl.1 rfl (lv_room (Nat.le_of_ble_eq_true rfl)) dL_law_317 ⟨show (63 + 2 * T + 13 * k) + 0 ≤ 600000 by omega, show (1250718 + 11 * T + 100 * k) + 0 ≤ 7302250 by omega⟩) hS (fun q _ h => hFc q h) hFc (fun r_1 uc t H1 locs ht hvm hw hB hz1 hk1 hS => ?_)
  obtain ⟨FV2, FJ2, hcf, hP1, hK1, hD1⟩ := hB
  rw [ht] at hP1
  obtain ⟨hP, hD⟩ := va_joinR hP hD hk1 hFc hP1 hD1
  generalize H1 = H at hP hS ⊢
  have hC : CWd cI cJ cO b0 n FX T nw ov tf FV2 FJ2 go gq gw ga (([(b0, cbC r0 fl nw), (fl, flC cO n fa), (r0, rdC ov (va_rf ol) r1 r2 r3 r4 r5), (r1, chC cf cx zn 0), (r2, chC cf cx zn 1), (r3, chC cf cx zn 2), (r4, chC cf cx zn 3), (r5, tlC cI tf)] ++ va_pl L (pf cJ kd pi bd af bo)) ++ fls cJ fa FX FV2 FJ2 n) := ⟨fl, fa, r0, r1, r2, r3, r4, r5, ol, cf, cx, zn, xl, tag, L, kd, pi, bd, af, bo, rfl, hn, hR, hPB, hZ, hT, hLK, hq0, htot, hTe, hTI, hG, hJB⟩
  clear hPc hDc hP1 hD1 hK1
  generalize (([(b0, cbC r0 fl nw), (fl, flC cO n fa), (r0, rdC ov (va_rf ol) r1 r2 r3 r4 r5), (r1, chC cf cx zn 0), (r2, chC cf cx zn 1), (r3, chC cf cx zn 2), (r4, chC cf cx zn 3), (r5, tlC cI tf)] ++ va_pl L (pf cJ kd pi bd af bo)) ++ fls cJ fa FX FV2 FJ2 n) = ws at hC hP hD
  refine W.widen (k := (63 + 2 * T + 13 * (k + 1))) (n := (1250718 + 11 * T + 100 * (k + 1))) (by omega) (by omega) ?_
  have hr_1 := hw
  refine lv_pop hx hb dL_law_320 rfl ?_
  refine lv_aload_n hx hb dL_law_321 rfl (lv_at hl 2 rfl) ?_
  refine lv_aload_n hx hb dL_law_322 rfl (lv_at hl 0 rfl) ?_
  refine lv_iload_n hx hb dL_law_323 rfl (lv_at hl 3 rfl) ?_
  refine lv_iconst (v := 1) hx hb dL_law_324 (by decide) ?_
  refine lv_iadd hx hb dL_law_325 ?_
  refine va_sld hx hb hX hbl hbA hS (vpi_of (by have t9 := ti_add (x := (i3 + 1)) rfl (by omega) (by omega); omega) (by have t9 := ti_add (x := (i3 + 1)) rfl (by omega) (by omega); omega)) dL_law_326 ?_
  refine lv_aload_n hx hb dL_law_327 rfl (lv_at hl 0 rfl) ?_
  refine lv_iload_n hx hb dL_law_328 rfl (lv_at hl 3 rfl) ?_
  refine lv_iconst (v := 2) hx hb dL_law_329 (by decide) ?_
  refine lv_iadd hx hb dL_law_330 ?_
  refine va_sld hx hb hX hbl hbA hS (vpi_of (by have t9 := ti_add (x := (i3 + 2)) rfl (by omega) (by omega); omega) (by have t9 := ti_add (x := (i3 + 2)) rfl (by omega) (by omega); omega)) dL_law_331 ?_
  have hI0 := hI
  have hPq := hP.perm List.perm_append_comm
  have hDq := hD.perm List.perm_append_comm
  have hPc := hPq.left
  have hDc := hDq.left
  have hFc := va_freeR hDq hS hA
  refine va_calli (va_runV (As := [.int (xs ((i3 + 1) : Int32).toNatClampNeg), .int (xs ((i3 + 2) : Int32).toNatClampNeg)]) (rest := []) ⟨hx, hb, hml, hown, ha⟩ (m_sender l D cI cJ cZ cO _ m0 mq mi ma 0 (cl + 1) (xs ((i3 + 1) : Int32).toNatClampNeg) (xs ((i3 + 2) : Int32).toNatClampNeg) hI) (cwV 2 ha (gaV kl_L_45 km_X11_sender ks_X11_sender kz_X11 kd_X11_sender) rfl rfl rfl (by decide +kernel) ⟨Nat.le_of_ble_eq_true rfl, Nat.le_of_ble_eq_true rfl⟩) ⟨pw_blind, va_recv hK hPc (ci := 11) (q0 := 0) rfl rfl, fun U hU hW => ⟨rfl, pw_start hU hW hPc hK hDc hN⟩⟩ rfl rfl hl.1 rfl (lv_room (Nat.le_of_ble_eq_true rfl)) dL_law_332 ⟨show (63 + 2 * T + 13 * (k + 1)) + 0 ≤ 600000 by omega, show (1250718 + 11 * T + 100 * (k + 1)) + 0 ≤ 7302250 by omega⟩) hS (fun q _ h => hFc q h) hFc (fun r_2 um t H1 locs ht hvm hw hB hz1 hk1 hS => ?_)
  obtain ⟨mi2, ma2, hf, hP1, hK1, hD1⟩ := hB
  rw [ht] at hP1
  obtain ⟨hP, hD⟩ := va_joinR hPq hDq hk1 hFc hP1 hD1
  have hP := hP.perm List.perm_append_comm
  have hD := hD.perm List.perm_append_comm
  have hI : MI 0 cl mi2 ma2 := MI_cl hf.1.1
  have hY : RLq n FX nw ov tf FV2 FJ2 go gq gw ga mi2 ma2 := by rw [hcf.1, hcf.2]; exact RL_read hY (sender_pkd hY hI0.1) (fun k hk => hf.1.2.1 k hk) hf.1.2.2
  clear hPq hDq hPc hDc hP1 hD1 hK1
  generalize H1 = H at hP hS ⊢
  have hr_2 := hw
  refine lv_pop hx hb dL_law_335 rfl ?_
  refine lv_goto (tgt := 451) hx hb dL_law_336 (by decide) ?_
  exact law_tail l C0 hL D cI cJ cZ cO hK hN b0 m0 mq k (by omega) hLP n FX T nw ov tf FV2 FJ2 go gq gw ga ws mi2 ma2 cl _ _ hC hcl hI hY hP hD hS _ _ (by omega) (by omega) i3 hi ls (lv_sub hl [0, 1, 2, 3] rfl)
set_option maxHeartbeats 4000000 in
set_option maxRecDepth 100000 in
theorem law_case7 {p : Program} {e : Env} {s : State} {m : MethodId} {below : List Frame} {meth : Method} {c : Code} (l : Launch) {b L0 : Nat} {xs : Nat → Int32} (C0 : lw_At p s m meth c b L0 xs) (hL : L0 ≤ 2560) (D : va_G) (cI cJ cZ cO : ClassId) (hK : va_K D vwCl (pw_ty cI cJ cZ cO) s) (hN : nw s) (b0 m0 : Nat) (mq : Nat → Nat) (k : Nat) (hk : 5 * k + 5 ≤ L0) (hLP : LWP p l e s m below meth c D cI cJ cZ cO b b0 m0 mq (k + 1)) (n : Nat) (FX : Nat → Nat → Int32) (T : Nat) (nw : Int32) (ov tf : Nat → Int32) (FV : Nat → Nat → Nat → Int32) (FJ : Nat → Nat → Nat → Int64) (go : Option S4) (gq : List S3) (gw : List S4) (ga : List A6) (ws : va_W) (mi : Nat → Int32) (ma : Nat → Nat → Int32) (cl : Int) (H : Heap) (locs : List Loc) (hC : CWd cI cJ cO b0 n FX T nw ov tf FV FJ go gq gw ga ws) (hcl : cl = 512 - ((k + 1 : Nat) : Int)) (hI : MI 0 (cl + 1) mi ma) (hY : RLq n FX nw ov tf FV FJ go gq gw ga mi ma) (hP : va_P D vwCl (ws ++ mw cI cZ m0 mq mi ma) H) (hD : va_D (fun q : Nat => s.heap.size ≤ q) (ws ++ mw cI cZ m0 mq mi ma)) (hS : va_S (fun q : Nat => s.heap.size ≤ q) s.heap H locs) (ls : Array Slot) (hl : lv_has ls 4 [(0, .ref b), (1, .ref b0), (2, .ref m0), (3, .int (nI (5 * k)))]) : W p l e room_1 s m #[Value.ref b] below meth c H locs (63 + 2 * T + 13 * k) (1250718 + 11 * T + 100 * k) (lw_Z below #[Value.ref b] s) (F0 m 339 ls []) := by
  obtain ⟨hx, hb, hr, hml, hown, hts0, hX, hbl, hlocks, hgv⟩ := id C0
  have ha : ∀ w ∈ wsL_law, w.before #[Value.ref b] s = true := fun w h => hts0 w (wsL_law_in w h)
  have hA : ∀ q : Nat, s.heap.size ≤ q → (fun q : Nat => s.heap.size ≤ q) q := fun _ h => h
  have hbA : ¬ (fun q : Nat => s.heap.size ≤ q) b := Nat.not_le.mpr hbl
  obtain ⟨i3, hi⟩ : ∃ y, y = nI (5 * k) := ⟨_, rfl⟩
  rw [← hi] at hl
  have ti : i3.toInt = 5 * (k : Int) := by
    rw [hi, nI_toInt (by omega)]
    omega
  have hT8 := CWd_T hC
  have kc_1 := tk_1
  have kc_2 := tk_2
  have kc_3 := tk_3
  have kc_4 := tk_4
  refine lv_aload_n hx hb dL_law_339 rfl (lv_at hl 1 rfl) ?_
  refine lv_aload_n hx hb dL_law_340 rfl (lv_at hl 0 rfl) ?_
  refine lv_iload_n hx hb dL_law_341 rfl (lv_at hl 3 rfl) ?_
  refine lv_iconst (v := 1) hx hb dL_law_342 (by decide) ?_
  refine lv_iadd hx hb dL_law_343 ?_
  refine va_sld hx hb hX hbl hbA hS (vpi_of (by have t9 := ti_add (x := (i3 + 1)) rfl (by omega) (by omega); omega) (by have t9 := ti_add (x := (i3 + 1)) rfl (by omega) (by omega); omega)) dL_law_344 ?_
  refine lv_aload_n hx hb dL_law_345 rfl (lv_at hl 0 rfl) ?_
  refine lv_iload_n hx hb dL_law_346 rfl (lv_at hl 3 rfl) ?_
  refine lv_iconst (v := 2) hx hb dL_law_347 (by decide) ?_
  refine lv_iadd hx hb dL_law_348 ?_
  refine va_sld hx hb hX hbl hbA hS (vpi_of (by have t9 := ti_add (x := (i3 + 2)) rfl (by omega) (by omega); omega) (by have t9 := ti_add (x := (i3 + 2)) rfl (by omega) (by omega); omega)) dL_law_349 ?_
  obtain ⟨fl, fa, r0, r1, r2, r3, r4, r5, ol, cf, cx, zn, xl, tag, L, kd, pi, bd, af, bo, hws, hn, hR, hPB, hZ, hT, hLK, hq0, htot, hTe, hTI, hG, hJB⟩ := hC
  subst hws
  have hn9 := hn
  have hPc := hP.left
  have hDc := hD.left
  have hFc := va_freeR hD hS hA
  refine va_calli (va_runV (As := [.int (xs ((i3 + 1) : Int32).toNatClampNeg), .int (xs ((i3 + 2) : Int32).toNatClampNeg)]) (rest := []) ⟨hx, hb, hml, hown, ha⟩ (s_receiver l D cI cJ cZ cO _ b0 fl nw n fa FX FV FJ hn r0 r1 r2 r3 r4 r5 ov ol cf cx zn xl tag L kd pi bd af bo go gq gw ga tf (xs ((i3 + 1) : Int32).toNatClampNeg) (xs ((i3 + 2) : Int32).toNatClampNeg)) (cwV 2 ha (gaV kl_L_46 km_X10_receiver ks_X10_receiver kz_X10 kd_X10_receiver) rfl rfl rfl (by decide +kernel) ⟨Nat.le_of_ble_eq_true rfl, Nat.le_of_ble_eq_true rfl⟩) ⟨pw_blind, va_recv hK hPc (ci := 10) (q0 := 0) rfl rfl, fun U hU hW => ⟨rfl, pw_start hU hW hPc hK hDc hN⟩⟩ rfl rfl hl.1 rfl (lv_room (Nat.le_of_ble_eq_true rfl)) dL_law_350 ⟨show (63 + 2 * T + 13 * k) + 0 ≤ 600000 by omega, show (1250718 + 11 * T + 100 * k) + 0 ≤ 7302250 by omega⟩) hS (fun q _ h => hFc q h) hFc (fun r_1 uc t H1 locs ht hvm hw hB hz1 hk1 hS => ?_)
  obtain ⟨FV2, FJ2, hcf, hP1, hK1, hD1⟩ := hB
  rw [ht] at hP1
  obtain ⟨hP, hD⟩ := va_joinR hP hD hk1 hFc hP1 hD1
  generalize H1 = H at hP hS ⊢
  have hC : CWd cI cJ cO b0 n FX T nw ov tf FV2 FJ2 go gq gw ga (([(b0, cbC r0 fl nw), (fl, flC cO n fa), (r0, rdC ov (va_rf ol) r1 r2 r3 r4 r5), (r1, chC cf cx zn 0), (r2, chC cf cx zn 1), (r3, chC cf cx zn 2), (r4, chC cf cx zn 3), (r5, tlC cI tf)] ++ va_pl L (pf cJ kd pi bd af bo)) ++ fls cJ fa FX FV2 FJ2 n) := ⟨fl, fa, r0, r1, r2, r3, r4, r5, ol, cf, cx, zn, xl, tag, L, kd, pi, bd, af, bo, rfl, hn, hR, hPB, hZ, hT, hLK, hq0, htot, hTe, hTI, hG, hJB⟩
  clear hPc hDc hP1 hD1 hK1
  generalize (([(b0, cbC r0 fl nw), (fl, flC cO n fa), (r0, rdC ov (va_rf ol) r1 r2 r3 r4 r5), (r1, chC cf cx zn 0), (r2, chC cf cx zn 1), (r3, chC cf cx zn 2), (r4, chC cf cx zn 3), (r5, tlC cI tf)] ++ va_pl L (pf cJ kd pi bd af bo)) ++ fls cJ fa FX FV2 FJ2 n) = ws at hC hP hD
  refine W.widen (k := (63 + 2 * T + 13 * (k + 1))) (n := (1250718 + 11 * T + 100 * (k + 1))) (by omega) (by omega) ?_
  have hr_1 := hw
  refine lv_pop hx hb dL_law_353 rfl ?_
  refine lv_aload_n hx hb dL_law_354 rfl (lv_at hl 2 rfl) ?_
  refine lv_aload_n hx hb dL_law_355 rfl (lv_at hl 0 rfl) ?_
  refine lv_iload_n hx hb dL_law_356 rfl (lv_at hl 3 rfl) ?_
  refine lv_iconst (v := 1) hx hb dL_law_357 (by decide) ?_
  refine lv_iadd hx hb dL_law_358 ?_
  refine va_sld hx hb hX hbl hbA hS (vpi_of (by have t9 := ti_add (x := (i3 + 1)) rfl (by omega) (by omega); omega) (by have t9 := ti_add (x := (i3 + 1)) rfl (by omega) (by omega); omega)) dL_law_359 ?_
  refine lv_aload_n hx hb dL_law_360 rfl (lv_at hl 0 rfl) ?_
  refine lv_iload_n hx hb dL_law_361 rfl (lv_at hl 3 rfl) ?_
  refine lv_iconst (v := 2) hx hb dL_law_362 (by decide) ?_
  refine lv_iadd hx hb dL_law_363 ?_
  refine va_sld hx hb hX hbl hbA hS (vpi_of (by have t9 := ti_add (x := (i3 + 2)) rfl (by omega) (by omega); omega) (by have t9 := ti_add (x := (i3 + 2)) rfl (by omega) (by omega); omega)) dL_law_364 ?_
  have hI0 := hI
  have hPq := hP.perm List.perm_append_comm
  have hDq := hD.perm List.perm_append_comm
  have hPc := hPq.left
  have hDc := hDq.left
  have hFc := va_freeR hDq hS hA
  refine va_calli (va_runV (As := [.int (xs ((i3 + 1) : Int32).toNatClampNeg), .int (xs ((i3 + 2) : Int32).toNatClampNeg)]) (rest := []) ⟨hx, hb, hml, hown, ha⟩ (m_receiver l D cI cJ cZ cO _ m0 mq mi ma 0 (cl + 1) (xs ((i3 + 1) : Int32).toNatClampNeg) (xs ((i3 + 2) : Int32).toNatClampNeg) hI) (cwV 2 ha (gaV kl_L_49 km_X11_receiver ks_X11_receiver kz_X11 kd_X11_receiver) rfl rfl rfl (by decide +kernel) ⟨Nat.le_of_ble_eq_true rfl, Nat.le_of_ble_eq_true rfl⟩) ⟨pw_blind, va_recv hK hPc (ci := 11) (q0 := 0) rfl rfl, fun U hU hW => ⟨rfl, pw_start hU hW hPc hK hDc hN⟩⟩ rfl rfl hl.1 rfl (lv_room (Nat.le_of_ble_eq_true rfl)) dL_law_365 ⟨show (63 + 2 * T + 13 * (k + 1)) + 0 ≤ 600000 by omega, show (1250718 + 11 * T + 100 * (k + 1)) + 0 ≤ 7302250 by omega⟩) hS (fun q _ h => hFc q h) hFc (fun r_2 um t H1 locs ht hvm hw hB hz1 hk1 hS => ?_)
  obtain ⟨mi2, ma2, hf, hP1, hK1, hD1⟩ := hB
  rw [ht] at hP1
  obtain ⟨hP, hD⟩ := va_joinR hPq hDq hk1 hFc hP1 hD1
  have hP := hP.perm List.perm_append_comm
  have hD := hD.perm List.perm_append_comm
  have hI : MI 0 cl mi2 ma2 := MI_cl hf.1.1
  have hY : RLq n FX nw ov tf FV2 FJ2 go gq gw ga mi2 ma2 := by rw [hcf.1, hcf.2]; exact RL_read hY receiver_pkd (fun k hk => hf.1.2.1 k (by simp)) hf.1.2.2
  clear hPq hDq hPc hDc hP1 hD1 hK1
  generalize H1 = H at hP hS ⊢
  have hr_2 := hw
  refine lv_pop hx hb dL_law_368 rfl ?_
  refine lv_goto (tgt := 451) hx hb dL_law_369 (by decide) ?_
  exact law_tail l C0 hL D cI cJ cZ cO hK hN b0 m0 mq k (by omega) hLP n FX T nw ov tf FV2 FJ2 go gq gw ga ws mi2 ma2 cl _ _ hC hcl hI hY hP hD hS _ _ (by omega) (by omega) i3 hi ls (lv_sub hl [0, 1, 2, 3] rfl)
set_option maxHeartbeats 4000000 in
set_option maxRecDepth 100000 in
theorem law_case8 {p : Program} {e : Env} {s : State} {m : MethodId} {below : List Frame} {meth : Method} {c : Code} (l : Launch) {b L0 : Nat} {xs : Nat → Int32} (C0 : lw_At p s m meth c b L0 xs) (hL : L0 ≤ 2560) (D : va_G) (cI cJ cZ cO : ClassId) (hK : va_K D vwCl (pw_ty cI cJ cZ cO) s) (hN : nw s) (b0 m0 : Nat) (mq : Nat → Nat) (k : Nat) (hk : 5 * k + 5 ≤ L0) (hLP : LWP p l e s m below meth c D cI cJ cZ cO b b0 m0 mq (k + 1)) (n : Nat) (FX : Nat → Nat → Int32) (T : Nat) (nw : Int32) (ov tf : Nat → Int32) (FV : Nat → Nat → Nat → Int32) (FJ : Nat → Nat → Nat → Int64) (go : Option S4) (gq : List S3) (gw : List S4) (ga : List A6) (ws : va_W) (mi : Nat → Int32) (ma : Nat → Nat → Int32) (cl : Int) (H : Heap) (locs : List Loc) (hC : CWd cI cJ cO b0 n FX T nw ov tf FV FJ go gq gw ga ws) (hcl : cl = 512 - ((k + 1 : Nat) : Int)) (hI : MI 0 (cl + 1) mi ma) (hY : RLq n FX nw ov tf FV FJ go gq gw ga mi ma) (hP : va_P D vwCl (ws ++ mw cI cZ m0 mq mi ma) H) (hD : va_D (fun q : Nat => s.heap.size ≤ q) (ws ++ mw cI cZ m0 mq mi ma)) (hS : va_S (fun q : Nat => s.heap.size ≤ q) s.heap H locs) (ls : Array Slot) (hl : lv_has ls 4 [(0, .ref b), (1, .ref b0), (2, .ref m0), (3, .int (nI (5 * k)))]) : W p l e room_1 s m #[Value.ref b] below meth c H locs (63 + 2 * T + 13 * k) (1250718 + 11 * T + 100 * k) (lw_Z below #[Value.ref b] s) (F0 m 372 ls []) := by
  obtain ⟨hx, hb, hr, hml, hown, hts0, hX, hbl, hlocks, hgv⟩ := id C0
  have ha : ∀ w ∈ wsL_law, w.before #[Value.ref b] s = true := fun w h => hts0 w (wsL_law_in w h)
  have hA : ∀ q : Nat, s.heap.size ≤ q → (fun q : Nat => s.heap.size ≤ q) q := fun _ h => h
  have hbA : ¬ (fun q : Nat => s.heap.size ≤ q) b := Nat.not_le.mpr hbl
  obtain ⟨i3, hi⟩ : ∃ y, y = nI (5 * k) := ⟨_, rfl⟩
  rw [← hi] at hl
  have ti : i3.toInt = 5 * (k : Int) := by
    rw [hi, nI_toInt (by omega)]
    omega
  have hT8 := CWd_T hC
  have kc_1 := tk_1
  have kc_2 := tk_2
  have kc_3 := tk_3
  have kc_4 := tk_4
  refine lv_aload_n hx hb dL_law_372 rfl (lv_at hl 1 rfl) ?_
  refine lv_aload_n hx hb dL_law_373 rfl (lv_at hl 0 rfl) ?_
  refine lv_iload_n hx hb dL_law_374 rfl (lv_at hl 3 rfl) ?_
  refine lv_iconst (v := 1) hx hb dL_law_375 (by decide) ?_
  refine lv_iadd hx hb dL_law_376 ?_
  refine va_sld hx hb hX hbl hbA hS (vpi_of (by have t9 := ti_add (x := (i3 + 1)) rfl (by omega) (by omega); omega) (by have t9 := ti_add (x := (i3 + 1)) rfl (by omega) (by omega); omega)) dL_law_377 ?_
  refine lv_aload_n hx hb dL_law_378 rfl (lv_at hl 0 rfl) ?_
  refine lv_iload_n hx hb dL_law_379 rfl (lv_at hl 3 rfl) ?_
  refine lv_iconst (v := 2) hx hb dL_law_380 (by decide) ?_
  refine lv_iadd hx hb dL_law_381 ?_
  refine va_sld hx hb hX hbl hbA hS (vpi_of (by have t9 := ti_add (x := (i3 + 2)) rfl (by omega) (by omega); omega) (by have t9 := ti_add (x := (i3 + 2)) rfl (by omega) (by omega); omega)) dL_law_382 ?_
  obtain ⟨fl, fa, r0, r1, r2, r3, r4, r5, ol, cf, cx, zn, xl, tag, L, kd, pi, bd, af, bo, hws, hn, hR, hPB, hZ, hT, hLK, hq0, htot, hTe, hTI, hG, hJB⟩ := hC
  subst hws
  have hn9 := hn
  have hPc := hP.left
  have hDc := hD.left
  have hFc := va_freeR hD hS hA
  refine va_calli (va_runV (As := [.int (xs ((i3 + 1) : Int32).toNatClampNeg), .int (xs ((i3 + 2) : Int32).toNatClampNeg)]) (rest := []) ⟨hx, hb, hml, hown, ha⟩ (s_kept l D cI cJ cZ cO _ b0 fl nw n fa FX FV FJ hn r0 r1 r2 r3 r4 r5 ov ol cf cx zn xl tag L kd pi bd af bo go gq gw ga tf (xs ((i3 + 1) : Int32).toNatClampNeg) (xs ((i3 + 2) : Int32).toNatClampNeg)) (cwV 2 ha (gaV kl_L_50 km_X10_kept ks_X10_kept kz_X10 kd_X10_kept) rfl rfl rfl (by decide +kernel) ⟨Nat.le_of_ble_eq_true rfl, Nat.le_of_ble_eq_true rfl⟩) ⟨pw_blind, va_recv hK hPc (ci := 10) (q0 := 0) rfl rfl, fun U hU hW => ⟨rfl, pw_start hU hW hPc hK hDc hN⟩⟩ rfl rfl hl.1 rfl (lv_room (Nat.le_of_ble_eq_true rfl)) dL_law_383 ⟨show (63 + 2 * T + 13 * k) + 0 ≤ 600000 by omega, show (1250718 + 11 * T + 100 * k) + 0 ≤ 7302250 by omega⟩) hS (fun q _ h => hFc q h) hFc (fun r_1 uc t H1 locs ht hvm hw hB hz1 hk1 hS => ?_)
  obtain ⟨FV2, FJ2, hcf, hP1, hK1, hD1⟩ := hB
  rw [ht] at hP1
  obtain ⟨hP, hD⟩ := va_joinR hP hD hk1 hFc hP1 hD1
  generalize H1 = H at hP hS ⊢
  have hC : CWd cI cJ cO b0 n FX T nw ov tf FV2 FJ2 go gq gw ga (([(b0, cbC r0 fl nw), (fl, flC cO n fa), (r0, rdC ov (va_rf ol) r1 r2 r3 r4 r5), (r1, chC cf cx zn 0), (r2, chC cf cx zn 1), (r3, chC cf cx zn 2), (r4, chC cf cx zn 3), (r5, tlC cI tf)] ++ va_pl L (pf cJ kd pi bd af bo)) ++ fls cJ fa FX FV2 FJ2 n) := ⟨fl, fa, r0, r1, r2, r3, r4, r5, ol, cf, cx, zn, xl, tag, L, kd, pi, bd, af, bo, rfl, hn, hR, hPB, hZ, hT, hLK, hq0, htot, hTe, hTI, hG, hJB⟩
  clear hPc hDc hP1 hD1 hK1
  generalize (([(b0, cbC r0 fl nw), (fl, flC cO n fa), (r0, rdC ov (va_rf ol) r1 r2 r3 r4 r5), (r1, chC cf cx zn 0), (r2, chC cf cx zn 1), (r3, chC cf cx zn 2), (r4, chC cf cx zn 3), (r5, tlC cI tf)] ++ va_pl L (pf cJ kd pi bd af bo)) ++ fls cJ fa FX FV2 FJ2 n) = ws at hC hP hD
  refine W.widen (k := (63 + 2 * T + 13 * (k + 1))) (n := (1250718 + 11 * T + 100 * (k + 1))) (by omega) (by omega) ?_
  have hr_1 := hw
  refine lv_pop hx hb dL_law_386 rfl ?_
  refine lv_aload_n hx hb dL_law_387 rfl (lv_at hl 2 rfl) ?_
  refine lv_aload_n hx hb dL_law_388 rfl (lv_at hl 0 rfl) ?_
  refine lv_iload_n hx hb dL_law_389 rfl (lv_at hl 3 rfl) ?_
  refine lv_iconst (v := 1) hx hb dL_law_390 (by decide) ?_
  refine lv_iadd hx hb dL_law_391 ?_
  refine va_sld hx hb hX hbl hbA hS (vpi_of (by have t9 := ti_add (x := (i3 + 1)) rfl (by omega) (by omega); omega) (by have t9 := ti_add (x := (i3 + 1)) rfl (by omega) (by omega); omega)) dL_law_392 ?_
  refine lv_aload_n hx hb dL_law_393 rfl (lv_at hl 0 rfl) ?_
  refine lv_iload_n hx hb dL_law_394 rfl (lv_at hl 3 rfl) ?_
  refine lv_iconst (v := 2) hx hb dL_law_395 (by decide) ?_
  refine lv_iadd hx hb dL_law_396 ?_
  refine va_sld hx hb hX hbl hbA hS (vpi_of (by have t9 := ti_add (x := (i3 + 2)) rfl (by omega) (by omega); omega) (by have t9 := ti_add (x := (i3 + 2)) rfl (by omega) (by omega); omega)) dL_law_397 ?_
  have hI0 := hI
  have hPq := hP.perm List.perm_append_comm
  have hDq := hD.perm List.perm_append_comm
  have hPc := hPq.left
  have hDc := hDq.left
  have hFc := va_freeR hDq hS hA
  refine va_calli (va_runV (As := [.int (xs ((i3 + 1) : Int32).toNatClampNeg), .int (xs ((i3 + 2) : Int32).toNatClampNeg)]) (rest := []) ⟨hx, hb, hml, hown, ha⟩ (m_kept l D cI cJ cZ cO _ m0 mq mi ma 0 (cl + 1) (xs ((i3 + 1) : Int32).toNatClampNeg) (xs ((i3 + 2) : Int32).toNatClampNeg) hI) (cwV 2 ha (gaV kl_L_53 km_X11_kept ks_X11_kept kz_X11 kd_X11_kept) rfl rfl rfl (by decide +kernel) ⟨Nat.le_of_ble_eq_true rfl, Nat.le_of_ble_eq_true rfl⟩) ⟨pw_blind, va_recv hK hPc (ci := 11) (q0 := 0) rfl rfl, fun U hU hW => ⟨rfl, pw_start hU hW hPc hK hDc hN⟩⟩ rfl rfl hl.1 rfl (lv_room (Nat.le_of_ble_eq_true rfl)) dL_law_398 ⟨show (63 + 2 * T + 13 * (k + 1)) + 0 ≤ 600000 by omega, show (1250718 + 11 * T + 100 * (k + 1)) + 0 ≤ 7302250 by omega⟩) hS (fun q _ h => hFc q h) hFc (fun r_2 um t H1 locs ht hvm hw hB hz1 hk1 hS => ?_)
  obtain ⟨mi2, ma2, hf, hP1, hK1, hD1⟩ := hB
  rw [ht] at hP1
  obtain ⟨hP, hD⟩ := va_joinR hPq hDq hk1 hFc hP1 hD1
  have hP := hP.perm List.perm_append_comm
  have hD := hD.perm List.perm_append_comm
  have hI : MI 0 cl mi2 ma2 := MI_cl hf.1.1
  have hY : RLq n FX nw ov tf FV2 FJ2 go gq gw ga mi2 ma2 := by rw [hcf.1, hcf.2]; exact RL_read hY kept_pkd (fun k hk => hf.1.2.1 k (by simp)) hf.1.2.2
  clear hPq hDq hPc hDc hP1 hD1 hK1
  generalize H1 = H at hP hS ⊢
  have hr_2 := hw
  refine lv_pop hx hb dL_law_401 rfl ?_
  refine lv_goto (tgt := 451) hx hb dL_law_402 (by decide) ?_
  exact law_tail l C0 hL D cI cJ cZ cO hK hN b0 m0 mq k (by omega) hLP n FX T nw ov tf FV2 FJ2 go gq gw ga ws mi2 ma2 cl _ _ hC hcl hI hY hP hD hS _ _ (by omega) (by omega) i3 hi ls (lv_sub hl [0, 1, 2, 3] rfl)
set_option maxHeartbeats 4000000 in
set_option maxRecDepth 100000 in
theorem law_case9 {p : Program} {e : Env} {s : State} {m : MethodId} {below : List Frame} {meth : Method} {c : Code} (l : Launch) {b L0 : Nat} {xs : Nat → Int32} (C0 : lw_At p s m meth c b L0 xs) (hL : L0 ≤ 2560) (D : va_G) (cI cJ cZ cO : ClassId) (hK : va_K D vwCl (pw_ty cI cJ cZ cO) s) (hN : nw s) (b0 m0 : Nat) (mq : Nat → Nat) (k : Nat) (hk : 5 * k + 5 ≤ L0) (hLP : LWP p l e s m below meth c D cI cJ cZ cO b b0 m0 mq (k + 1)) (n : Nat) (FX : Nat → Nat → Int32) (T : Nat) (nw : Int32) (ov tf : Nat → Int32) (FV : Nat → Nat → Nat → Int32) (FJ : Nat → Nat → Nat → Int64) (go : Option S4) (gq : List S3) (gw : List S4) (ga : List A6) (ws : va_W) (mi : Nat → Int32) (ma : Nat → Nat → Int32) (cl : Int) (H : Heap) (locs : List Loc) (hC : CWd cI cJ cO b0 n FX T nw ov tf FV FJ go gq gw ga ws) (hcl : cl = 512 - ((k + 1 : Nat) : Int)) (hI : MI 0 (cl + 1) mi ma) (hY : RLq n FX nw ov tf FV FJ go gq gw ga mi ma) (hP : va_P D vwCl (ws ++ mw cI cZ m0 mq mi ma) H) (hD : va_D (fun q : Nat => s.heap.size ≤ q) (ws ++ mw cI cZ m0 mq mi ma)) (hS : va_S (fun q : Nat => s.heap.size ≤ q) s.heap H locs) (ls : Array Slot) (hl : lv_has ls 4 [(0, .ref b), (1, .ref b0), (2, .ref m0), (3, .int (nI (5 * k)))]) : W p l e room_1 s m #[Value.ref b] below meth c H locs (63 + 2 * T + 13 * k) (1250718 + 11 * T + 100 * k) (lw_Z below #[Value.ref b] s) (F0 m 405 ls []) := by
  obtain ⟨hx, hb, hr, hml, hown, hts0, hX, hbl, hlocks, hgv⟩ := id C0
  have ha : ∀ w ∈ wsL_law, w.before #[Value.ref b] s = true := fun w h => hts0 w (wsL_law_in w h)
  have hA : ∀ q : Nat, s.heap.size ≤ q → (fun q : Nat => s.heap.size ≤ q) q := fun _ h => h
  have hbA : ¬ (fun q : Nat => s.heap.size ≤ q) b := Nat.not_le.mpr hbl
  obtain ⟨i3, hi⟩ : ∃ y, y = nI (5 * k) := ⟨_, rfl⟩
  rw [← hi] at hl
  have ti : i3.toInt = 5 * (k : Int) := by
    rw [hi, nI_toInt (by omega)]
    omega
  have hT8 := CWd_T hC
  have kc_1 := tk_1
  have kc_2 := tk_2
  have kc_3 := tk_3
  have kc_4 := tk_4
  refine lv_aload_n hx hb dL_law_405 rfl (lv_at hl 1 rfl) ?_
  refine lv_aload_n hx hb dL_law_406 rfl (lv_at hl 0 rfl) ?_
  refine lv_iload_n hx hb dL_law_407 rfl (lv_at hl 3 rfl) ?_
  refine lv_iconst (v := 1) hx hb dL_law_408 (by decide) ?_
  refine lv_iadd hx hb dL_law_409 ?_
  refine va_sld hx hb hX hbl hbA hS (vpi_of (by have t9 := ti_add (x := (i3 + 1)) rfl (by omega) (by omega); omega) (by have t9 := ti_add (x := (i3 + 1)) rfl (by omega) (by omega); omega)) dL_law_410 ?_
  obtain ⟨fl, fa, r0, r1, r2, r3, r4, r5, ol, cf, cx, zn, xl, tag, L, kd, pi, bd, af, bo, hws, hn, hR, hPB, hZ, hT, hLK, hq0, htot, hTe, hTI, hG, hJB⟩ := hC
  subst hws
  have hn9 := hn
  have hPc := hP.left
  have hDc := hD.left
  have hFc := va_freeR hD hS hA
  refine va_calli (va_runV (As := [.int (xs ((i3 + 1) : Int32).toNatClampNeg)]) (rest := []) ⟨hx, hb, hml, hown, ha⟩ (s_most l D cI cJ cZ cO _ b0 fl nw n fa FX FV FJ hn r0 r1 r2 r3 r4 r5 ov ol cf cx zn xl tag L kd pi bd af bo go gq gw ga tf (xs ((i3 + 1) : Int32).toNatClampNeg)) (cwV 1 ha (gaV kl_L_54 km_X10_most ks_X10_most kz_X10 kd_X10_most) rfl rfl rfl (by decide +kernel) ⟨Nat.le_of_ble_eq_true rfl, Nat.le_of_ble_eq_true rfl⟩) ⟨pw_blind, va_recv hK hPc (ci := 10) (q0 := 0) rfl rfl, fun U hU hW => ⟨rfl, pw_start hU hW hPc hK hDc hN⟩⟩ rfl rfl hl.1 rfl (lv_room (Nat.le_of_ble_eq_true rfl)) dL_law_411 ⟨show (63 + 2 * T + 13 * k) + 0 ≤ 600000 by omega, show (1250718 + 11 * T + 100 * k) + 0 ≤ 7302250 by omega⟩) hS (fun q _ h => hFc q h) hFc (fun r_1 uc t H1 locs ht hvm hw hB hz1 hk1 hS => ?_)
  obtain ⟨FV2, FJ2, hcf, hP1, hK1, hD1⟩ := hB
  rw [ht] at hP1
  obtain ⟨hP, hD⟩ := va_joinR hP hD hk1 hFc hP1 hD1
  generalize H1 = H at hP hS ⊢
  have hC : CWd cI cJ cO b0 n FX T nw ov tf FV2 FJ2 go gq gw ga (([(b0, cbC r0 fl nw), (fl, flC cO n fa), (r0, rdC ov (va_rf ol) r1 r2 r3 r4 r5), (r1, chC cf cx zn 0), (r2, chC cf cx zn 1), (r3, chC cf cx zn 2), (r4, chC cf cx zn 3), (r5, tlC cI tf)] ++ va_pl L (pf cJ kd pi bd af bo)) ++ fls cJ fa FX FV2 FJ2 n) := ⟨fl, fa, r0, r1, r2, r3, r4, r5, ol, cf, cx, zn, xl, tag, L, kd, pi, bd, af, bo, rfl, hn, hR, hPB, hZ, hT, hLK, hq0, htot, hTe, hTI, hG, hJB⟩
  clear hPc hDc hP1 hD1 hK1
  generalize (([(b0, cbC r0 fl nw), (fl, flC cO n fa), (r0, rdC ov (va_rf ol) r1 r2 r3 r4 r5), (r1, chC cf cx zn 0), (r2, chC cf cx zn 1), (r3, chC cf cx zn 2), (r4, chC cf cx zn 3), (r5, tlC cI tf)] ++ va_pl L (pf cJ kd pi bd af bo)) ++ fls cJ fa FX FV2 FJ2 n) = ws at hC hP hD
  refine W.widen (k := (63 + 2 * T + 13 * (k + 1))) (n := (1250718 + 11 * T + 100 * (k + 1))) (by omega) (by omega) ?_
  have hr_1 := hw
  refine lv_aload_n hx hb dL_law_414 rfl (lv_at hl 2 rfl) ?_
  refine lv_aload_n hx hb dL_law_415 rfl (lv_at hl 0 rfl) ?_
  refine lv_iload_n hx hb dL_law_416 rfl (lv_at hl 3 rfl) ?_
  refine lv_iconst (v := 1) hx hb dL_law_417 (by decide) ?_
  refine lv_iadd hx hb dL_law_418 ?_
  refine va_sld hx hb hX hbl hbA hS (vpi_of (by have t9 := ti_add (x := (i3 + 1)) rfl (by omega) (by omega); omega) (by have t9 := ti_add (x := (i3 + 1)) rfl (by omega) (by omega); omega)) dL_law_419 ?_
  have hI0 := hI
  have hPq := hP.perm List.perm_append_comm
  have hDq := hD.perm List.perm_append_comm
  have hPc := hPq.left
  have hDc := hDq.left
  have hFc := va_freeR hDq hS hA
  refine va_calli (va_runV (As := [.int (xs ((i3 + 1) : Int32).toNatClampNeg)]) (rest := [.int r_1]) ⟨hx, hb, hml, hown, ha⟩ (m_most l D cI cJ cZ cO _ m0 mq mi ma 0 (cl + 1) (xs ((i3 + 1) : Int32).toNatClampNeg) hI) (cwV 1 ha (gaV kl_L_57 km_X11_most ks_X11_most kz_X11 kd_X11_most) rfl rfl rfl (by decide +kernel) ⟨Nat.le_of_ble_eq_true rfl, Nat.le_of_ble_eq_true rfl⟩) ⟨pw_blind, va_recv hK hPc (ci := 11) (q0 := 0) rfl rfl, fun U hU hW => ⟨rfl, pw_start hU hW hPc hK hDc hN⟩⟩ rfl rfl hl.1 rfl (lv_room (Nat.le_of_ble_eq_true rfl)) dL_law_420 ⟨show (63 + 2 * T + 13 * (k + 1)) + 0 ≤ 600000 by omega, show (1250718 + 11 * T + 100 * (k + 1)) + 0 ≤ 7302250 by omega⟩) hS (fun q _ h => hFc q h) hFc (fun r_2 um t H1 locs ht hvm hw hB hz1 hk1 hS => ?_)
  obtain ⟨mi2, ma2, hf, hP1, hK1, hD1⟩ := hB
  rw [ht] at hP1
  obtain ⟨hP, hD⟩ := va_joinR hPq hDq hk1 hFc hP1 hD1
  have hP := hP.perm List.perm_append_comm
  have hD := hD.perm List.perm_append_comm
  have hI : MI 0 cl mi2 ma2 := MI_cl hf.1.1
  have heq : r_1 = r_2 := by rw [hr_1.2, hw.2]; exact ans_most hY
  have hY : RLq n FX nw ov tf FV2 FJ2 go gq gw ga mi2 ma2 := by rw [hcf.1, hcf.2]; exact RL_read hY most_pkd (fun k hk => hf.1.2.1 k (by simp)) hf.1.2.2
  clear hPq hDq hPc hDc hP1 hD1 hK1
  generalize H1 = H at hP hS ⊢
  have hr_2 := hw
  refine lv_icmp_eq (tgt := 451) hx hb dL_law_423 (by decide) (fun c_3 => ?_) (fun c_3 => ?_)
  rotate_left
  · exact absurd (heq) c_3
  exact law_tail l C0 hL D cI cJ cZ cO hK hN b0 m0 mq k (by omega) hLP n FX T nw ov tf FV2 FJ2 go gq gw ga ws mi2 ma2 cl _ _ hC hcl hI hY hP hD hS _ _ (by omega) (by omega) i3 hi ls (lv_sub hl [0, 1, 2, 3] rfl)
set_option maxHeartbeats 4000000 in
set_option maxRecDepth 100000 in
theorem law_case10 {p : Program} {e : Env} {s : State} {m : MethodId} {below : List Frame} {meth : Method} {c : Code} (l : Launch) {b L0 : Nat} {xs : Nat → Int32} (C0 : lw_At p s m meth c b L0 xs) (hL : L0 ≤ 2560) (D : va_G) (cI cJ cZ cO : ClassId) (hK : va_K D vwCl (pw_ty cI cJ cZ cO) s) (hN : nw s) (b0 m0 : Nat) (mq : Nat → Nat) (k : Nat) (hk : 5 * k + 5 ≤ L0) (hLP : LWP p l e s m below meth c D cI cJ cZ cO b b0 m0 mq (k + 1)) (n : Nat) (FX : Nat → Nat → Int32) (T : Nat) (nw : Int32) (ov tf : Nat → Int32) (FV : Nat → Nat → Nat → Int32) (FJ : Nat → Nat → Nat → Int64) (go : Option S4) (gq : List S3) (gw : List S4) (ga : List A6) (ws : va_W) (mi : Nat → Int32) (ma : Nat → Nat → Int32) (cl : Int) (H : Heap) (locs : List Loc) (hC : CWd cI cJ cO b0 n FX T nw ov tf FV FJ go gq gw ga ws) (hcl : cl = 512 - ((k + 1 : Nat) : Int)) (hI : MI 0 (cl + 1) mi ma) (hY : RLq n FX nw ov tf FV FJ go gq gw ga mi ma) (hP : va_P D vwCl (ws ++ mw cI cZ m0 mq mi ma) H) (hD : va_D (fun q : Nat => s.heap.size ≤ q) (ws ++ mw cI cZ m0 mq mi ma)) (hS : va_S (fun q : Nat => s.heap.size ≤ q) s.heap H locs) (ls : Array Slot) (hl : lv_has ls 4 [(0, .ref b), (1, .ref b0), (2, .ref m0), (3, .int (nI (5 * k)))]) : W p l e room_1 s m #[Value.ref b] below meth c H locs (63 + 2 * T + 13 * k) (1250718 + 11 * T + 100 * k) (lw_Z below #[Value.ref b] s) (F0 m 428 ls []) := by
  obtain ⟨hx, hb, hr, hml, hown, hts0, hX, hbl, hlocks, hgv⟩ := id C0
  have ha : ∀ w ∈ wsL_law, w.before #[Value.ref b] s = true := fun w h => hts0 w (wsL_law_in w h)
  have hA : ∀ q : Nat, s.heap.size ≤ q → (fun q : Nat => s.heap.size ≤ q) q := fun _ h => h
  have hbA : ¬ (fun q : Nat => s.heap.size ≤ q) b := Nat.not_le.mpr hbl
  obtain ⟨i3, hi⟩ : ∃ y, y = nI (5 * k) := ⟨_, rfl⟩
  rw [← hi] at hl
  have ti : i3.toInt = 5 * (k : Int) := by
    rw [hi, nI_toInt (by omega)]
    omega
  have hT8 := CWd_T hC
  have kc_1 := tk_1
  have kc_2 := tk_2
  have kc_3 := tk_3
  have kc_4 := tk_4
  refine lv_aload_n hx hb dL_law_428 rfl (lv_at hl 1 rfl) ?_
  refine lv_aload_n hx hb dL_law_429 rfl (lv_at hl 0 rfl) ?_
  refine lv_iload_n hx hb dL_law_430 rfl (lv_at hl 3 rfl) ?_
  refine lv_iconst (v := 1) hx hb dL_law_431 (by decide) ?_
  refine lv_iadd hx hb dL_law_432 ?_
  refine va_sld hx hb hX hbl hbA hS (vpi_of (by have t9 := ti_add (x := (i3 + 1)) rfl (by omega) (by omega); omega) (by have t9 := ti_add (x := (i3 + 1)) rfl (by omega) (by omega); omega)) dL_law_433 ?_
  obtain ⟨fl, fa, r0, r1, r2, r3, r4, r5, ol, cf, cx, zn, xl, tag, L, kd, pi, bd, af, bo, hws, hn, hR, hPB, hZ, hT, hLK, hq0, htot, hTe, hTI, hG, hJB⟩ := hC
  subst hws
  have hn9 := hn
  have hp0 := perm_idx (X := [(b0, cbC r0 fl nw), (fl, flC cO n fa), (r0, rdC ov (va_rf ol) r1 r2 r3 r4 r5), (r1, chC cf cx zn 0), (r2, chC cf cx zn 1), (r3, chC cf cx zn 2), (r4, chC cf cx zn 3), (r5, tlC cI tf)]) (Y := [(b0, cbC r0 fl nw), (fl, flC cO n fa), (r0, rdC ov (va_rf ol) r1 r2 r3 r4 r5), (r1, chC cf cx zn 0), (r2, chC cf cx zn 1), (r3, chC cf cx zn 2)] ++ [(r4, chC cf cx zn 3), (r5, tlC cI tf)]) (N := 8) [0, 1, 2, 3, 4, 5, 6, 7] rfl rfl (by decide)
  have hPq := hP.perm (pmL (cx := [(b0, cbC r0 fl nw), (fl, flC cO n fa), (r0, rdC ov (va_rf ol) r1 r2 r3 r4 r5), (r1, chC cf cx zn 0), (r2, chC cf cx zn 1), (r3, chC cf cx zn 2)]) (xr := [(r4, chC cf cx zn 3), (r5, tlC cI tf)]) (pl := va_pl L (pf cJ kd pi bd af bo)) (R := fls cJ fa FX FV FJ n) (M := mw cI cZ m0 mq mi ma) hp0)
  have hDq := hD.perm (pmL (cx := [(b0, cbC r0 fl nw), (fl, flC cO n fa), (r0, rdC ov (va_rf ol) r1 r2 r3 r4 r5), (r1, chC cf cx zn 0), (r2, chC cf cx zn 1), (r3, chC cf cx zn 2)]) (xr := [(r4, chC cf cx zn 3), (r5, tlC cI tf)]) (pl := va_pl L (pf cJ kd pi bd af bo)) (R := fls cJ fa FX FV FJ n) (M := mw cI cZ m0 mq mi ma) hp0)
  have hPc := hPq.left
  have hDc := hDq.left
  have hFc := va_freeR hDq hS hA
  refine va_calli (va_runV (As := [.int (xs ((i3 + 1) : Int32).toNatClampNeg)]) (rest := []) ⟨hx, hb, hml, hown, ha⟩ (s_count l D cI cJ cZ cO _ b0 fl nw n fa r0 r1 r2 r3 r4 r5 ov ol cf cx zn xl tag L kd pi bd af bo go gq gw ga (xs ((i3 + 1) : Int32).toNatClampNeg)) (cwV 1 ha (gaV kl_L_58 km_X10_count ks_X10_count kz_X10 kd_X10_count) rfl rfl rfl (by decide +kernel) ⟨Nat.le_of_ble_eq_true rfl, Nat.le_of_ble_eq_true rfl⟩) ⟨pw_blind, va_recv hK hPc (ci := 10) (q0 := 0) rfl rfl, fun U hU hW => ⟨rfl, pw_start hU hW hPc hK hDc hN⟩⟩ rfl rfl hl.1 rfl (lv_room (Nat.le_of_ble_eq_true rfl)) dL_law_434 ⟨show (63 + 2 * T + 13 * k) + 0 ≤ 600000 by omega, show (1250718 + 11 * T + 100 * k) + 0 ≤ 7302250 by omega⟩) hS (fun q _ h => hFc q h) hFc (fun r_1 uc t H1 locs ht hvm hw hB hz1 hk1 hS => ?_)
  obtain ⟨hP1, hK1, hD1⟩ := hB
  rw [ht] at hP1
  obtain ⟨hP, hD⟩ := va_joinR (w1 := [(b0, cbC r0 fl nw), (fl, flC cO n fa), (r0, rdC ov (va_rf ol) r1 r2 r3 r4 r5), (r1, chC cf cx zn 0), (r2, chC cf cx zn 1), (r3, chC cf cx zn 2)]) hPq hDq hk1 hFc hP1 hD1
  have hp1 := perm_idx (X := [(r4, chC cf cx zn 3), (r5, tlC cI tf)] ++ [(b0, cbC r0 fl nw), (fl, flC cO n fa), (r0, rdC ov (va_rf ol) r1 r2 r3 r4 r5), (r1, chC cf cx zn 0), (r2, chC cf cx zn 1), (r3, chC cf cx zn 2)]) (Y := [(b0, cbC r0 fl nw), (fl, flC cO n fa), (r0, rdC ov (va_rf ol) r1 r2 r3 r4 r5), (r1, chC cf cx zn 0), (r2, chC cf cx zn 1), (r3, chC cf cx zn 2), (r4, chC cf cx zn 3), (r5, tlC cI tf)]) (N := 8) [2, 3, 4, 5, 6, 7, 0, 1] rfl rfl (by decide)
  have hP := hP.perm (pmLb (X2 := [(b0, cbC r0 fl nw), (fl, flC cO n fa), (r0, rdC ov (va_rf ol) r1 r2 r3 r4 r5), (r1, chC cf cx zn 0), (r2, chC cf cx zn 1), (r3, chC cf cx zn 2), (r4, chC cf cx zn 3), (r5, tlC cI tf)]) (xr := [(r4, chC cf cx zn 3), (r5, tlC cI tf)]) (w1 := [(b0, cbC r0 fl nw), (fl, flC cO n fa), (r0, rdC ov (va_rf ol) r1 r2 r3 r4 r5), (r1, chC cf cx zn 0), (r2, chC cf cx zn 1), (r3, chC cf cx zn 2)]) (pl := va_pl L (pf cJ kd pi bd af bo)) (R := fls cJ fa FX FV FJ n) (M := mw cI cZ m0 mq mi ma) hp1)
  have hD := hD.perm (pmLb (X2 := [(b0, cbC r0 fl nw), (fl, flC cO n fa), (r0, rdC ov (va_rf ol) r1 r2 r3 r4 r5), (r1, chC cf cx zn 0), (r2, chC cf cx zn 1), (r3, chC cf cx zn 2), (r4, chC cf cx zn 3), (r5, tlC cI tf)]) (xr := [(r4, chC cf cx zn 3), (r5, tlC cI tf)]) (w1 := [(b0, cbC r0 fl nw), (fl, flC cO n fa), (r0, rdC ov (va_rf ol) r1 r2 r3 r4 r5), (r1, chC cf cx zn 0), (r2, chC cf cx zn 1), (r3, chC cf cx zn 2)]) (pl := va_pl L (pf cJ kd pi bd af bo)) (R := fls cJ fa FX FV FJ n) (M := mw cI cZ m0 mq mi ma) hp1)
  clear hp0 hp1 hPq hDq
  generalize H1 = H at hP hS ⊢
  have hC : CWd cI cJ cO b0 n FX T nw ov tf FV FJ go gq gw ga (([(b0, cbC r0 fl nw), (fl, flC cO n fa), (r0, rdC ov (va_rf ol) r1 r2 r3 r4 r5), (r1, chC cf cx zn 0), (r2, chC cf cx zn 1), (r3, chC cf cx zn 2), (r4, chC cf cx zn 3), (r5, tlC cI tf)] ++ va_pl L (pf cJ kd pi bd af bo)) ++ fls cJ fa FX FV FJ n) := ⟨fl, fa, r0, r1, r2, r3, r4, r5, ol, cf, cx, zn, xl, tag, L, kd, pi, bd, af, bo, rfl, hn, hR, hPB, hZ, hT, hLK, hq0, htot, hTe, hTI, hG, hJB⟩
  clear hPc hDc hP1 hD1 hK1
  generalize (([(b0, cbC r0 fl nw), (fl, flC cO n fa), (r0, rdC ov (va_rf ol) r1 r2 r3 r4 r5), (r1, chC cf cx zn 0), (r2, chC cf cx zn 1), (r3, chC cf cx zn 2), (r4, chC cf cx zn 3), (r5, tlC cI tf)] ++ va_pl L (pf cJ kd pi bd af bo)) ++ fls cJ fa FX FV FJ n) = ws at hC hP hD
  refine W.widen (k := (63 + 2 * T + 13 * (k + 1))) (n := (1250718 + 11 * T + 100 * (k + 1))) (by omega) (by omega) ?_
  have hr_1 := hw
  refine lv_pop hx hb dL_law_437 rfl ?_
  refine lv_aload_n hx hb dL_law_438 rfl (lv_at hl 2 rfl) ?_
  refine lv_aload_n hx hb dL_law_439 rfl (lv_at hl 0 rfl) ?_
  refine lv_iload_n hx hb dL_law_440 rfl (lv_at hl 3 rfl) ?_
  refine lv_iconst (v := 1) hx hb dL_law_441 (by decide) ?_
  refine lv_iadd hx hb dL_law_442 ?_
  refine va_sld hx hb hX hbl hbA hS (vpi_of (by have t9 := ti_add (x := (i3 + 1)) rfl (by omega) (by omega); omega) (by have t9 := ti_add (x := (i3 + 1)) rfl (by omega) (by omega); omega)) dL_law_443 ?_
  have hI0 := hI
  have hPq := hP.perm List.perm_append_comm
  have hDq := hD.perm List.perm_append_comm
  have hPc := hPq.left
  have hDc := hDq.left
  have hFc := va_freeR hDq hS hA
  refine va_calli (va_runV (As := [.int (xs ((i3 + 1) : Int32).toNatClampNeg)]) (rest := []) ⟨hx, hb, hml, hown, ha⟩ (m_count l D cI cJ cZ cO _ m0 mq mi ma 0 (cl + 1) (xs ((i3 + 1) : Int32).toNatClampNeg) hI) (cwV 1 ha (gaV kl_L_61 km_X11_count ks_X11_count kz_X11 kd_X11_count) rfl rfl rfl (by decide +kernel) ⟨Nat.le_of_ble_eq_true rfl, Nat.le_of_ble_eq_true rfl⟩) ⟨pw_blind, va_recv hK hPc (ci := 11) (q0 := 0) rfl rfl, fun U hU hW => ⟨rfl, pw_start hU hW hPc hK hDc hN⟩⟩ rfl rfl hl.1 rfl (lv_room (Nat.le_of_ble_eq_true rfl)) dL_law_444 ⟨show (63 + 2 * T + 13 * (k + 1)) + 0 ≤ 600000 by omega, show (1250718 + 11 * T + 100 * (k + 1)) + 0 ≤ 7302250 by omega⟩) hS (fun q _ h => hFc q h) hFc (fun r_2 um t H1 locs ht hvm hw hB hz1 hk1 hS => ?_)
  obtain ⟨mi2, ma2, hf, hP1, hK1, hD1⟩ := hB
  rw [ht] at hP1
  obtain ⟨hP, hD⟩ := va_joinR hPq hDq hk1 hFc hP1 hD1
  have hP := hP.perm List.perm_append_comm
  have hD := hD.perm List.perm_append_comm
  have hI : MI 0 cl mi2 ma2 := MI_cl hf.1.1
  have hY : RLq n FX nw ov tf FV FJ go gq gw ga mi2 ma2 := RL_read hY PKD_refl (fun k _ => hf.1.2.1 k (by simp)) hf.1.2.2
  clear hPq hDq hPc hDc hP1 hD1 hK1
  generalize H1 = H at hP hS ⊢
  have hr_2 := hw
  refine lv_pop hx hb dL_law_447 rfl ?_
  refine lv_goto (tgt := 451) hx hb dL_law_448 (by decide) ?_
  exact law_tail l C0 hL D cI cJ cZ cO hK hN b0 m0 mq k (by omega) hLP n FX T nw ov tf FV FJ go gq gw ga ws mi2 ma2 cl _ _ hC hcl hI hY hP hD hS _ _ (by omega) (by omega) i3 hi ls (lv_sub hl [0, 1, 2, 3] rfl)

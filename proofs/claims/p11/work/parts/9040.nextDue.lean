def fdue (pi : Nat → Nat → Int32) (fi : Option Nat) : Int32 := match fi with
  | none => 2147483647
  | some z => pi 0 z
def fdS (l : List S4) : Int32 := match l with
  | [] => 2147483647
  | c :: _ => c.1
def fdA (l : List A6) : Int32 := match l with
  | [] => 2147483647
  | c :: _ => c.1
theorem fd_1 {L : List Nat} {kd : Nat → Bool} {af : Nat → Option Nat} {tag : Nat → Nat} {cf cl : Nat → Option Nat} {xl : Nat → List Nat} {pi : Nat → Nat → Int32} {bd : Nat → Nat} {bo : Nat → Nat → Int64} {ol : Option Nat} {o : Option S4} {q : List S3} {w : List S4} {a : List A6} (hR : RI L kd af tag cf cl xl ol) (hG : GG xl pi bd bo ol o q w a) : fdue pi (cf 1) = fdS w := by
  rw [(hR.1 1 (by decide)).1.1, ← hG.2.2.1]
  cases xl 1 with
  | nil => rfl
  | cons z t => rfl
theorem fd_2 {L : List Nat} {kd : Nat → Bool} {af : Nat → Option Nat} {tag : Nat → Nat} {cf cl : Nat → Option Nat} {xl : Nat → List Nat} {pi : Nat → Nat → Int32} {bd : Nat → Nat} {bo : Nat → Nat → Int64} {ol : Option Nat} {o : Option S4} {q : List S3} {w : List S4} {a : List A6} (hR : RI L kd af tag cf cl xl ol) (hG : GG xl pi bd bo ol o q w a) : fdue pi (cf 2) = fdA a := by
  rw [(hR.1 2 (by decide)).1.1, ← hG.2.2.2]
  cases xl 2 with
  | nil => rfl
  | cons z t => rfl
set_option maxHeartbeats 4000000 in
set_option maxRecDepth 100000 in
theorem s_firstDue2 (l : Launch) (D : va_G) (cI cJ cZ cO : ClassId) (sz : Nat) (h0 : Nat) (L : List Nat) (kd : Nat → Bool) (pi : Nat → Nat → Int32) (bd : Nat → Nat) (af : Nat → Option Nat) (bo : Nat → Nat → Int64) (fi la : Option Nat) (n : Int32) (hfi : ∀ z, fi = some z → z ∈ L ∧ kd z = false) : Met l yX1_firstDue (wa yX1_firstDue cX1_firstDue 1 (some .int)) ({ frames := 0, cells := 0, slots := 0, locals := 0 }) (va_Pc [.ref h0] (pw_s D cI cJ cZ cO sz ([(h0, .inr (1, [va_rf fi, va_rf la, .int n]))] ++ va_pl L (pf cJ kd pi bd af bo)))) (va_Qi (fun (r : Int32) (_ : Unit) => r = fdue pi fi) (fun (_ : Unit) (t : State) => pw_t D cI cJ cZ cO (va_A ([(h0, .inr (1, [va_rf fi, va_rf la, .int n]))] ++ va_pl L (pf cJ kd pi bd af bo)) sz) ([(h0, .inr (1, [va_rf fi, va_rf la, .int n]))] ++ va_pl L (pf cJ kd pi bd af bo)) t) (va_A ([(h0, .inr (1, [va_rf fi, va_rf la, .int n]))] ++ va_pl L (pf cJ kd pi bd af bo)) sz)) 0 0 (va_A ([(h0, .inr (1, [va_rf fi, va_rf la, .int n]))] ++ va_pl L (pf cJ kd pi bd af bo)) sz) := by
  refine Met.ofW (cc := cX1_firstDue) (maxL := 1) (ret := (some .int)) (by decide) rfl ?_
  intro p e s m args below meth c s₁ B hml hv
  obtain ⟨rfl, hsz, hP, hK, hD0, hN⟩ := hv
  have hx := B.exec
  have hb := B.bytes
  have hr := B.returns
  have hts := atoms_spec (ws := (wa yX1_firstDue cX1_firstDue 1 (some .int))) B.pre
  have ha : ∀ w ∈ wsL_law, w.before _ s = true := fun w h => hts w (List.mem_cons_of_mem _ h)
  have hown : s.vm.findClass RX1 = some m.cls := findClass_of_methodNamed B.named
  have hlocks := B.notSynchronized
  subst hsz
  have hD := hD0.self (sz := s.heap.size)
  generalize hAe : va_A ([(h0, .inr (1, [va_rf fi, va_rf la, .int n]))] ++ va_pl L (pf cJ kd pi bd af bo)) s.heap.size = A at hD ⊢
  have hA : ∀ q : Nat, s.heap.size ≤ q → A q := fun q h => by rw [← hAe]; exact Or.inr h
  have hS : va_S A s.heap s.heap [] := va_S.rf
  have hP : va_P D vwCl ([(h0, .inr (1, [va_rf fi, va_rf la, .int n]))] ++ va_pl L (pf cJ kd pi bd af bo)) s.heap := hP
  have hl := lv_entry ([.ref h0]) (n := 1) (Nat.le_of_ble_eq_true rfl)
  rw [lg_entry_eq]
  generalize (lg_sl ([.ref h0]) ++ List.replicate (1 - (lg_sl ([.ref h0])).length) Slot.unset).toArray = ls at hl ⊢
  have hl : lv_has ls 1 [(0, .ref h0)] := hl
  -- from the entry
  refine lv_aload_n hx hb dX1_firstDue_0 rfl (lv_at hl 0 rfl) ?_
  refine va_get (D := D) (ci := 1) (v := va_rf fi) (C := RX1) (T := TX1) (N := 3) hx hb ha inlX1 hown hK hP 0 rfl rfl 0 (by decide) (ha _ kf_X1_20) (fun _ h9 => h9) rfl dX1_firstDue_1 ?_
  cases fi with
  | none =>
    have hP : va_P D vwCl ([(h0, .inr (1, [.null, va_rf la, .int n]))] ++ va_pl L (pf cJ kd pi bd af bo)) _ := hP
    have hD : va_D A ([(h0, .inr (1, [.null, va_rf la, .int n]))] ++ va_pl L (pf cJ kd pi bd af bo)) := hD
    refine lv_ifnonnullN hx hb dX1_firstDue_4 ?_
    refine lv_ldc (v := 2147483647) hx hb hown (ha _ kk_X1_42) dX1_firstDue_7 ?_
    refine lv_goto (tgt := 19) hx hb dX1_firstDue_9 (by decide) ?_
    have hP9 : va_P D vwCl ([(h0, .inr (1, [va_rf none, va_rf la, .int n]))] ++ va_pl L (pf cJ kd pi bd af bo)) _ := hP
    have hD9 : va_D A ([(h0, .inr (1, [va_rf none, va_rf la, .int n]))] ++ va_pl L (pf cJ kd pi bd af bo)) := hD
    exact W.iret (v := 2147483647) hx hb hr (fun t ht hW => ⟨⟨2147483647, (), rfl, rfl, ⟨by rw [ht]; exact hP9, va_K.moved hW.alike hK, hD9⟩⟩, hS.F ht⟩) hS.2.2 dX1_firstDue_19
  | some z_4 =>
    have hP : va_P D vwCl ([(h0, .inr (1, [.ref z_4, va_rf la, .int n]))] ++ va_pl L (pf cJ kd pi bd af bo)) _ := hP
    have hD : va_D A ([(h0, .inr (1, [.ref z_4, va_rf la, .int n]))] ++ va_pl L (pf cJ kd pi bd af bo)) := hD
    have m_z_4 := (hfi z_4 rfl).1
    have k_z_4 := (hfi z_4 rfl).2
    refine lv_ifnonnull (tgt := 12) hx hb dX1_firstDue_4 (by decide) ?_
    refine lv_aload_n hx hb dX1_firstDue_12 rfl (lv_at hl 0 rfl) ?_
    refine va_get (D := D) (ci := 1) (v := .ref z_4) (C := RX1) (T := TX1) (N := 3) hx hb ha inlX1 hown hK hP 0 rfl rfl 0 (by decide) (ha _ kf_X1_20) (fun _ h9 => h9) rfl dX1_firstDue_13 ?_
    obtain ⟨k_5, hk_5⟩ := va_pl_get (X := [(h0, .inr (1, [.ref z_4, va_rf la, .int n]))]) (f := pf cJ kd pi bd af bo) m_z_4
    refine va_getN (D := D) (ci := 5) (v := .int (pi 0 z_4)) (C := RX5) (T := TX5) (N := 7) hx hb ha inlX5 hown hK hP k_5 (hk_5.trans (congrArg (fun z => some (z_4, z)) (pf_p k_z_4))) rfl 0 (by decide) (va_Nw.use rfl (hN.f RX1 27 "CongestionBench$Parcel" "due" "I" "CongestionBench" (by decide +kernel))) (fun _ h9 => h9) rfl dX1_firstDue_16 ?_
    refine lv_topi (fun x_6 ex_6 => ?_)
    have hP9 : va_P D vwCl ([(h0, .inr (1, [va_rf (some z_4), va_rf la, .int n]))] ++ va_pl L (pf cJ kd pi bd af bo)) _ := hP
    have hD9 : va_D A ([(h0, .inr (1, [va_rf (some z_4), va_rf la, .int n]))] ++ va_pl L (pf cJ kd pi bd af bo)) := hD
    exact W.iret (v := x_6) hx hb hr (fun t ht hW => ⟨⟨x_6, (), rfl, ex_6, ⟨by rw [ht]; exact hP9, va_K.moved hW.alike hK, hD9⟩⟩, hS.F ht⟩) hS.2.2 dX1_firstDue_19

def xc_nextDue (go : Option S4) (gw : List S4) (ga : List A6) : Int32 :=
  bd (fdS gw) (fun v1 => bd (fdA ga) (fun v2 => bd (if v2 < v1 then v2 else v1) (fun v3 => om go v3 (fun c => bd c.1 (fun v4 => bd (if v4 < v3 then v4 else v3) (fun v5 => v5))))))
set_option maxHeartbeats 4000000 in
set_option maxRecDepth 100000 in
theorem s_nextDue (l : Launch) (D : va_G) (cI cJ cZ cO : ClassId) (sz : Nat) (r0 r1 r2 r3 r4 r5 : Nat) (ov : Nat → Int32) (ol : Option Nat) (cf cl : Nat → Option Nat) (zn : Nat → Int32) (xl : Nat → List Nat) (tag : Nat → Nat) (L : List Nat) (kd : Nat → Bool) (pi : Nat → Nat → Int32) (bd : Nat → Nat) (af : Nat → Option Nat) (bo : Nat → Nat → Int64) (go : Option S4) (gq : List S3) (gw : List S4) (ga : List A6) (hR : RI L kd af tag cf cl xl ol) (hPB : PB L kd pi bd) (hZ : ZN zn xl) (hG : GG xl pi bd bo ol go gq gw ga) (hJ : JB L kd bd) : Met l yX7_nextDue (wa yX7_nextDue cX7_nextDue 2 (some .int)) ({ frames := 1, cells := 0, slots := 0, locals := 40 }) (va_Pc [.ref r0] (pw_s D cI cJ cZ cO sz ([(r0, rdC ov (va_rf ol) r1 r2 r3 r4 r5), (r2, chC cf cl zn 1), (r3, chC cf cl zn 2)] ++ va_pl L (pf cJ kd pi bd af bo)))) (va_Qi (fun (r : Int32) (_ : Unit) => ((True) ∧ r = (xc_nextDue go gw ga))) (fun (_ : Unit) (t : State) => pw_t D cI cJ cZ cO (va_A ([(r0, rdC ov (va_rf ol) r1 r2 r3 r4 r5), (r2, chC cf cl zn 1), (r3, chC cf cl zn 2)] ++ va_pl L (pf cJ kd pi bd af bo)) sz) ([(r0, rdC ov (va_rf ol) r1 r2 r3 r4 r5), (r2, chC cf cl zn 1), (r3, chC cf cl zn 2)] ++ va_pl L (pf cJ kd pi bd af bo)) t) (va_A ([(r0, rdC ov (va_rf ol) r1 r2 r3 r4 r5), (r2, chC cf cl zn 1), (r3, chC cf cl zn 2)] ++ va_pl L (pf cJ kd pi bd af bo)) sz)) 0 0 (va_A ([(r0, rdC ov (va_rf ol) r1 r2 r3 r4 r5), (r2, chC cf cl zn 1), (r3, chC cf cl zn 2)] ++ va_pl L (pf cJ kd pi bd af bo)) sz) := by
  refine Met.ofW (cc := cX7_nextDue) (maxL := 2) (ret := (some .int)) (by decide) rfl ?_
  intro p e s m args below meth c s₁ B hml hv
  obtain ⟨rfl, hsz, hP, hK, hD0, hN⟩ := hv
  have hx := B.exec
  have hb := B.bytes
  have hr := B.returns
  have hts := atoms_spec (ws := (wa yX7_nextDue cX7_nextDue 2 (some .int))) B.pre
  have ha : ∀ w ∈ wsL_law, w.before _ s = true := fun w h => hts w (List.mem_cons_of_mem _ h)
  have hown : s.vm.findClass RX7 = some m.cls := findClass_of_methodNamed B.named
  have hlocks := B.notSynchronized
  subst hsz
  have hD := hD0.self (sz := s.heap.size)
  generalize hAe : va_A ([(r0, rdC ov (va_rf ol) r1 r2 r3 r4 r5), (r2, chC cf cl zn 1), (r3, chC cf cl zn 2)] ++ va_pl L (pf cJ kd pi bd af bo)) s.heap.size = A at hD ⊢
  have hA : ∀ q : Nat, s.heap.size ≤ q → A q := fun q h => by rw [← hAe]; exact Or.inr h
  have hS : va_S A s.heap s.heap [] := va_S.rf
  have hP : va_P D vwCl ([(r0, rdC ov (va_rf ol) r1 r2 r3 r4 r5), (r2, chC cf cl zn 1), (r3, chC cf cl zn 2)] ++ va_pl L (pf cJ kd pi bd af bo)) s.heap := hP
  have hl := lv_entry ([.ref r0]) (n := 2) (Nat.le_of_ble_eq_true rfl)
  rw [lg_entry_eq]
  generalize (lg_sl ([.ref r0]) ++ List.replicate (2 - (lg_sl ([.ref r0])).length) Slot.unset).toArray = ls at hl ⊢
  have hl : lv_has ls 2 [(0, .ref r0)] := hl
  obtain ⟨QP, hQP⟩ : ∃ y : State → Prop, y = (MQ below (va_Qi (fun (r : Int32) (_ : Unit) => ((True) ∧ r = (xc_nextDue go gw ga))) (fun (_ : Unit) (t : State) => pw_t D cI cJ cZ cO A ([(r0, rdC ov (va_rf ol) r1 r2 r3 r4 r5), (r2, chC cf cl zn 1), (r3, chC cf cl zn 2)] ++ va_pl L (pf cJ kd pi bd af bo)) t) A) #[(.ref r0 : Value)] s 0 0 A) := ⟨_, rfl⟩
  obtain ⟨RES, hRES⟩ : ∃ y, y = (xc_nextDue go gw ga) := ⟨_, rfl⟩
  have hQ : QQ L kd tag xl pi ol L kd tag xl pi ol [] [] 0 0 := QQ_rf
  -- from the entry
  have hE := hRES
  unfold xc_nextDue at hE
  refine lv_aload_n hx hb dX7_nextDue_0 rfl (lv_at hl 0 rfl) ?_
  refine va_get (D := D) (ci := 7) (v := .ref r2) (C := RX7) (T := TX7) (N := 15) hx hb ha inlX7 hown hK hP 0 rfl rfl 6 (by decide) (ha _ kf_X7_31) (fun _ h9 => h9) rfl dX7_nextDue_1 ?_
  have hPc := hP.part (X := [(r0, rdC ov (va_rf ol) r1 r2 r3 r4 r5), (r2, chC cf cl zn 1), (r3, chC cf cl zn 2)]) (cx := [(r2, chC cf cl zn 1)]) (pl := va_pl L (pf cJ kd pi bd af bo)) [1] rfl
  have hDc := hD.part (X := [(r0, rdC ov (va_rf ol) r1 r2 r3 r4 r5), (r2, chC cf cl zn 1), (r3, chC cf cl zn 2)]) (cx := [(r2, chC cf cl zn 1)]) (pl := va_pl L (pf cJ kd pi bd af bo)) [1] (by decide) rfl
  have hFc := va_freeP (X := [(r0, rdC ov (va_rf ol) r1 r2 r3 r4 r5), (r2, chC cf cl zn 1), (r3, chC cf cl zn 2)]) (cx := [(r2, chC cf cl zn 1)]) (pl := va_pl L (pf cJ kd pi bd af bo)) hD hS hA [1] rfl
  refine va_calli (va_runV (As := []) (rest := []) ⟨hx, hb, hml, hown, ha⟩ (s_firstDue2 l D cI cJ cZ cO _ r2 L kd pi bd af bo (cf 1) (cl 1) (zn 1) (RI_fi hR (by decide))) (cwV 0 ha (gaV kl_X7_122 km_X1_firstDue ks_X1_firstDue kz_X1 kd_X1_firstDue) rfl rfl rfl (by decide +kernel) ⟨Nat.le_of_ble_eq_true rfl, Nat.le_of_ble_eq_true rfl⟩) ⟨pw_blind, va_recv hK hPc (ci := 1) (q0 := 0) rfl rfl, fun U hU hW => ⟨rfl, pw_start hU hW hPc hK hDc hN⟩⟩ rfl rfl hl.1 rfl (lv_room (Nat.le_of_ble_eq_true rfl)) dX7_nextDue_4 ⟨Nat.le_of_ble_eq_true rfl, Nat.le_of_ble_eq_true rfl⟩) hS (fun q _ h => hFc q h) hFc (fun r_8 u t H1 locs ht hvm hw hB hz1 hk1 hS => ?_)
  obtain ⟨hP1, hK1, hD1⟩ := hB
  rw [ht] at hP1
  obtain ⟨hP, hD⟩ := va_joinP (wr := [(r0, rdC ov (va_rf ol) r1 r2 r3 r4 r5), (r3, chC cf cl zn 2)]) (rx := [(r2, chC cf cl zn 1)]) (pl1 := va_pl L (pf cJ kd pi bd af bo)) hP hD [1] [0, 2] rfl rfl (by decide) (by decide) hk1 hFc hP1 hD1
  generalize H1 = H at hP hS ⊢
  have hP : va_P D vwCl ([(r0, rdC ov (va_rf ol) r1 r2 r3 r4 r5), (r3, chC cf cl zn 2), (r2, chC cf cl zn 1)] ++ va_pl L (pf cJ kd pi bd af bo)) H := hP
  have hD : va_D A ([(r0, rdC ov (va_rf ol) r1 r2 r3 r4 r5), (r3, chC cf cl zn 2), (r2, chC cf cl zn 1)] ++ va_pl L (pf cJ kd pi bd af bo)) := hD
  refine W.widen (k := 0) (n := 0) (Nat.le_of_ble_eq_true rfl) (Nat.le_of_ble_eq_true rfl) ?_
  have hr_8 := hw
  have hE := bd_at (hr_8.trans (fd_1 hR hG)) hE
  refine lv_aload_n hx hb dX7_nextDue_7 rfl (lv_at hl 0 rfl) ?_
  refine va_get (D := D) (ci := 7) (v := .ref r3) (C := RX7) (T := TX7) (N := 15) hx hb ha inlX7 hown hK hP 0 rfl rfl 7 (by decide) (ha _ kf_X7_34) (fun _ h9 => h9) rfl dX7_nextDue_8 ?_
  have hPc := hP.part (X := [(r0, rdC ov (va_rf ol) r1 r2 r3 r4 r5), (r3, chC cf cl zn 2), (r2, chC cf cl zn 1)]) (cx := [(r3, chC cf cl zn 2)]) (pl := va_pl L (pf cJ kd pi bd af bo)) [1] rfl
  have hDc := hD.part (X := [(r0, rdC ov (va_rf ol) r1 r2 r3 r4 r5), (r3, chC cf cl zn 2), (r2, chC cf cl zn 1)]) (cx := [(r3, chC cf cl zn 2)]) (pl := va_pl L (pf cJ kd pi bd af bo)) [1] (by decide) rfl
  have hFc := va_freeP (X := [(r0, rdC ov (va_rf ol) r1 r2 r3 r4 r5), (r3, chC cf cl zn 2), (r2, chC cf cl zn 1)]) (cx := [(r3, chC cf cl zn 2)]) (pl := va_pl L (pf cJ kd pi bd af bo)) hD hS hA [1] rfl
  refine va_calli (va_runV (As := []) (rest := [.int r_8]) ⟨hx, hb, hml, hown, ha⟩ (s_firstDue2 l D cI cJ cZ cO _ r3 L kd pi bd af bo (cf 2) (cl 2) (zn 2) (RI_fi hR (by decide))) (cwV 0 ha (gaV kl_X7_122 km_X1_firstDue ks_X1_firstDue kz_X1 kd_X1_firstDue) rfl rfl rfl (by decide +kernel) ⟨Nat.le_of_ble_eq_true rfl, Nat.le_of_ble_eq_true rfl⟩) ⟨pw_blind, va_recv hK hPc (ci := 1) (q0 := 0) rfl rfl, fun U hU hW => ⟨rfl, pw_start hU hW hPc hK hDc hN⟩⟩ rfl rfl hl.1 rfl (lv_room (Nat.le_of_ble_eq_true rfl)) dX7_nextDue_11 ⟨Nat.le_of_ble_eq_true rfl, Nat.le_of_ble_eq_true rfl⟩) hS (fun q _ h => hFc q h) hFc (fun r_9 u t H1 locs ht hvm hw hB hz1 hk1 hS => ?_)
  obtain ⟨hP1, hK1, hD1⟩ := hB
  rw [ht] at hP1
  obtain ⟨hP, hD⟩ := va_joinP (wr := [(r0, rdC ov (va_rf ol) r1 r2 r3 r4 r5), (r2, chC cf cl zn 1)]) (rx := [(r3, chC cf cl zn 2)]) (pl1 := va_pl L (pf cJ kd pi bd af bo)) hP hD [1] [0, 2] rfl rfl (by decide) (by decide) hk1 hFc hP1 hD1
  generalize H1 = H at hP hS ⊢
  have hP : va_P D vwCl ([(r0, rdC ov (va_rf ol) r1 r2 r3 r4 r5), (r2, chC cf cl zn 1), (r3, chC cf cl zn 2)] ++ va_pl L (pf cJ kd pi bd af bo)) H := hP
  have hD : va_D A ([(r0, rdC ov (va_rf ol) r1 r2 r3 r4 r5), (r2, chC cf cl zn 1), (r3, chC cf cl zn 2)] ++ va_pl L (pf cJ kd pi bd af bo)) := hD
  refine W.widen (k := 0) (n := 0) (Nat.le_of_ble_eq_true rfl) (Nat.le_of_ble_eq_true rfl) ?_
  have hr_9 := hw
  have hE := bd_at (hr_9.trans (fd_2 hR hG)) hE
  refine va_mmin hx hb (hml.trans hl.1.symm) hown (ha _ kl_X7_126) (ha _ kt_min) (ha _ kz_J9) (ha _ kd_min) (Nat.le_of_ble_eq_true rfl) (Nat.le_of_ble_eq_true rfl) (Nat.le_of_ble_eq_true rfl) (Nat.le_of_ble_eq_true rfl) dX7_nextDue_14 ?_
  refine lv_topi (fun x_10 ex_10 => ?_)
  have hE := bd_at ex_10 hE
  refine lv_istore_n (lv' := [(1, .int x_10), (0, .ref r0)]) hx hb dX7_nextDue_17 rfl hl (by decide) rfl (fun ls hl => ?_)
  refine lv_aload_n hx hb dX7_nextDue_18 rfl (lv_at hl 1 rfl) ?_
  refine va_get (D := D) (ci := 7) (v := va_rf ol) (C := RX7) (T := TX7) (N := 15) hx hb ha inlX7 hown hK hP 0 rfl rfl 4 (by decide) (ha _ kf_X7_54) (fun _ h9 => h9) rfl dX7_nextDue_19 ?_
  cases ol with
  | none =>
    have hP : va_P D vwCl ([(r0, rdC ov .null r1 r2 r3 r4 r5), (r2, chC cf cl zn 1), (r3, chC cf cl zn 2)] ++ va_pl L (pf cJ kd pi bd af bo)) _ := hP
    have hD : va_D A ([(r0, rdC ov .null r1 r2 r3 r4 r5), (r2, chC cf cl zn 1), (r3, chC cf cl zn 2)] ++ va_pl L (pf cJ kd pi bd af bo)) := hD
    have hE := om_none (show go = none from hG.1.symm) hE
    refine lv_ifnonnullN hx hb dX7_nextDue_22 ?_
    refine lv_iload_n hx hb dX7_nextDue_25 rfl (lv_at hl 0 rfl) ?_
    refine lv_goto (tgt := 40) hx hb dX7_nextDue_26 (by decide) ?_
    have hP9 : va_P D vwCl ([(r0, rdC ov (va_rf none) r1 r2 r3 r4 r5), (r2, chC cf cl zn 1), (r3, chC cf cl zn 2)] ++ va_pl L (pf cJ kd pi bd af bo)) _ := hP
    have hD9 : va_D A ([(r0, rdC ov (va_rf none) r1 r2 r3 r4 r5), (r2, chC cf cl zn 1), (r3, chC cf cl zn 2)] ++ va_pl L (pf cJ kd pi bd af bo)) := hD
    exact W.iret (v := x_10) hx hb hr (fun t ht hW => ⟨⟨x_10, (), rfl, ⟨trivial, (by rw [← hRES, hE])⟩, ⟨by rw [ht]; exact hP9, va_K.moved hW.alike hK, hD9⟩⟩, hS.F ht⟩) hS.2.2 dX7_nextDue_40
  | some z_11 =>
    have hP : va_P D vwCl ([(r0, rdC ov (.ref z_11) r1 r2 r3 r4 r5), (r2, chC cf cl zn 1), (r3, chC cf cl zn 2)] ++ va_pl L (pf cJ kd pi bd af bo)) _ := hP
    have hD : va_D A ([(r0, rdC ov (.ref z_11) r1 r2 r3 r4 r5), (r2, chC cf cl zn 1), (r3, chC cf cl zn 2)] ++ va_pl L (pf cJ kd pi bd af bo)) := hD
    have hE := om_some (show go = some (cs pi z_11) from hG.1.symm) hE
    have m_z_11 := (hR.2 z_11 rfl).1
    have k_z_11 := (hR.2 z_11 rfl).2.1
    refine lv_ifnonnull (tgt := 29) hx hb dX7_nextDue_22 (by decide) ?_
    refine lv_iload_n hx hb dX7_nextDue_29 rfl (lv_at hl 0 rfl) ?_
    refine lv_aload_n hx hb dX7_nextDue_30 rfl (lv_at hl 1 rfl) ?_
    refine va_get (D := D) (ci := 7) (v := .ref z_11) (C := RX7) (T := TX7) (N := 15) hx hb ha inlX7 hown hK hP 0 rfl rfl 4 (by decide) (ha _ kf_X7_54) (fun _ h9 => h9) rfl dX7_nextDue_31 ?_
    obtain ⟨k_12, hk_12⟩ := va_pl_get (X := [(r0, rdC ov (.ref z_11) r1 r2 r3 r4 r5), (r2, chC cf cl zn 1), (r3, chC cf cl zn 2)]) (f := pf cJ kd pi bd af bo) m_z_11
    refine va_getN (D := D) (ci := 5) (v := .int (pi 0 z_11)) (C := RX5) (T := TX5) (N := 7) hx hb ha inlX5 hown hK hP k_12 (hk_12.trans (congrArg (fun z => some (z_11, z)) (pf_p k_z_11))) rfl 0 (by decide) (va_Nw.use rfl (hN.f RX7 58 "CongestionBench$Parcel" "due" "I" "CongestionBench" (by decide +kernel))) (fun _ h9 => h9) rfl dX7_nextDue_34 ?_
    refine lv_topi (fun x_13 ex_13 => ?_)
    have hE := bd_at ex_13 hE
    refine va_mmin hx hb (hml.trans hl.1.symm) hown (ha _ kl_X7_126) (ha _ kt_min) (ha _ kz_J9) (ha _ kd_min) (Nat.le_of_ble_eq_true rfl) (Nat.le_of_ble_eq_true rfl) (Nat.le_of_ble_eq_true rfl) (Nat.le_of_ble_eq_true rfl) dX7_nextDue_37 ?_
    refine lv_topi (fun x_14 ex_14 => ?_)
    have hE := bd_at ex_14 hE
    have hP9 : va_P D vwCl ([(r0, rdC ov (va_rf (some z_11)) r1 r2 r3 r4 r5), (r2, chC cf cl zn 1), (r3, chC cf cl zn 2)] ++ va_pl L (pf cJ kd pi bd af bo)) _ := hP
    have hD9 : va_D A ([(r0, rdC ov (va_rf (some z_11)) r1 r2 r3 r4 r5), (r2, chC cf cl zn 1), (r3, chC cf cl zn 2)] ++ va_pl L (pf cJ kd pi bd af bo)) := hD
    exact W.iret (v := x_14) hx hb hr (fun t ht hW => ⟨⟨x_14, (), rfl, ⟨trivial, (by rw [← hRES, hE])⟩, ⟨by rw [ht]; exact hP9, va_K.moved hW.alike hK, hD9⟩⟩, hS.F ht⟩) hS.2.2 dX7_nextDue_40

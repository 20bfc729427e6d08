set_option maxRecDepth 100000 in
def xc_nb1 (nw : Int32) (FV : FVt) : Nat → Nat → Int32 → Int32
  | 0, _, so => bd (nw + 1) (fun v1 => bd (if v1 < so then so else v1) (fun v2 => v2))
  | m + 1, j, so => bd (FV j 4 9) (fun v1 => bd (orn v1) (fun v2 => bd (if v2 < so then v2 else so) (fun so => bd (FV j 1 3) (fun v3 => bd (orn v3) (fun v4 => bd (if v4 < so then v4 else so) (fun so => xc_nb1 nw FV m (j + 1) so))))))

def xc_nextBusy (n : Nat) (nw : Int32) (FV : FVt) (go : Option S4) (gw : List S4) (ga : List A6) (en : Int32) : Int32 := bd (xc_nextDue go gw ga) (fun t1 => bd t1 (fun v1 => bd (if v1 < en then v1 else en) (fun so => xc_nb1 nw FV n 0 so)))
set_option maxHeartbeats 4000000 in
set_option maxRecDepth 100000 in
theorem s_nextBusy (l : Launch) (D : va_G) (cI cJ cZ cO : ClassId) (sz : Nat) (b0 fl : Nat) (nw : Int32) (n : Nat) (fa : Nat → Nat → Nat) (FX : Nat → Nat → Int32) (FV : Nat → Nat → Nat → Int32) (FJ : Nat → Nat → Nat → Int64) (hn : n ≤ 4) (r0 r1 r2 r3 r4 r5 : Nat) (ov : Nat → Int32) (ol : Option Nat) (cf cl : Nat → Option Nat) (zn : Nat → Int32) (xl : Nat → List Nat) (tag : Nat → Nat) (L : List Nat) (kd : Nat → Bool) (pi : Nat → Nat → Int32) (bd : Nat → Nat) (af : Nat → Option Nat) (bo : Nat → Nat → Int64) (go : Option S4) (gq : List S3) (gw : List S4) (ga : List A6) (tf : Nat → Int32) (en : Int32) (hR : RI L kd af tag cf cl xl ol) (hPB : PB L kd pi bd) (hZ : ZN zn xl) (hG : GG xl pi bd bo ol go gq gw ga) (hJ : JB L kd bd) (hn0 : 0 ≤ nw.toInt) (hn1 : nw.toInt < en.toInt) (hn2 : en.toInt ≤ 100000000) : Met l yX10_nextBusyTick (wa yX10_nextBusyTick cX10_nextBusyTick 7 (some .int)) ({ frames := 2, cells := 0, slots := 0, locals := 61 }) (va_Pc [.ref b0, .int en] (pw_s D cI cJ cZ cO sz (([(b0, cbC r0 fl nw), (fl, flC cO n fa), (r0, rdC ov (va_rf ol) r1 r2 r3 r4 r5), (r1, chC cf cl zn 0), (r2, chC cf cl zn 1), (r3, chC cf cl zn 2), (r4, chC cf cl zn 3), (r5, tlC cI tf)] ++ va_pl L (pf cJ kd pi bd af bo)) ++ fls cJ fa FX FV FJ n))) (va_Qi (fun (r : Int32) (_ : Unit) => (((nw.toInt + 1 ≤ r.toInt ∧ r.toInt ≤ en.toInt)) ∧ r = (xc_nextBusy n nw FV go gw ga en))) (fun (_ : Unit) (t : State) => pw_t D cI cJ cZ cO (va_A (([(b0, cbC r0 fl nw), (fl, flC cO n fa), (r0, rdC ov (va_rf ol) r1 r2 r3 r4 r5), (r1, chC cf cl zn 0), (r2, chC cf cl zn 1), (r3, chC cf cl zn 2), (r4, chC cf cl zn 3), (r5, tlC cI tf)] ++ va_pl L (pf cJ kd pi bd af bo)) ++ fls cJ fa FX FV FJ n) sz) (([(b0, cbC r0 fl nw), (fl, flC cO n fa), (r0, rdC ov (va_rf ol) r1 r2 r3 r4 r5), (r1, chC cf cl zn 0), (r2, chC cf cl zn 1), (r3, chC cf cl zn 2), (r4, chC cf cl zn 3), (r5, tlC cI tf)] ++ va_pl L (pf cJ kd pi bd af bo)) ++ fls cJ fa FX FV FJ n) t) (va_A (([(b0, cbC r0 fl nw), (fl, flC cO n fa), (r0, rdC ov (va_rf ol) r1 r2 r3 r4 r5), (r1, chC cf cl zn 0), (r2, chC cf cl zn 1), (r3, chC cf cl zn 2), (r4, chC cf cl zn 3), (r5, tlC cI tf)] ++ va_pl L (pf cJ kd pi bd af bo)) ++ fls cJ fa FX FV FJ n) sz)) 0 0 (va_A (([(b0, cbC r0 fl nw), (fl, flC cO n fa), (r0, rdC ov (va_rf ol) r1 r2 r3 r4 r5), (r1, chC cf cl zn 0), (r2, chC cf cl zn 1), (r3, chC cf cl zn 2), (r4, chC cf cl zn 3), (r5, tlC cI tf)] ++ va_pl L (pf cJ kd pi bd af bo)) ++ fls cJ fa FX FV FJ n) sz) := by
  refine Met.ofW (cc := cX10_nextBusyTick) (maxL := 7) (ret := (some .int)) (by decide) rfl ?_
  intro p e s m args below meth c s₁ B hml hv
  obtain ⟨rfl, hsz, hP, hK, hD0, hN⟩ := hv
  have hx := B.exec
  have hb := B.bytes
  have hr := B.returns
  have hts := atoms_spec (ws := (wa yX10_nextBusyTick cX10_nextBusyTick 7 (some .int))) B.pre
  have ha : ∀ w ∈ wsL_law, w.before _ s = true := fun w h => hts w (List.mem_cons_of_mem _ h)
  have hown : s.vm.findClass RX10 = some m.cls := findClass_of_methodNamed B.named
  have hlocks := B.notSynchronized
  subst hsz
  have hD := hD0.self (sz := s.heap.size)
  generalize hAe : va_A (([(b0, cbC r0 fl nw), (fl, flC cO n fa), (r0, rdC ov (va_rf ol) r1 r2 r3 r4 r5), (r1, chC cf cl zn 0), (r2, chC cf cl zn 1), (r3, chC cf cl zn 2), (r4, chC cf cl zn 3), (r5, tlC cI tf)] ++ va_pl L (pf cJ kd pi bd af bo)) ++ fls cJ fa FX FV FJ n) s.heap.size = A at hD ⊢
  have hA : ∀ q : Nat, s.heap.size ≤ q → A q := fun q h => by rw [← hAe]; exact Or.inr h
  have hS : va_S A s.heap s.heap [] := va_S.rf
  have hP : va_P D vwCl (([(b0, cbC r0 fl nw), (fl, flC cO n fa), (r0, rdC ov (va_rf ol) r1 r2 r3 r4 r5), (r1, chC cf cl zn 0), (r2, chC cf cl zn 1), (r3, chC cf cl zn 2), (r4, chC cf cl zn 3), (r5, tlC cI tf)] ++ va_pl L (pf cJ kd pi bd af bo)) ++ fls cJ fa FX FV FJ n) s.heap := hP
  have hl := lv_entry ([.ref b0, .int en]) (n := 7) (Nat.le_of_ble_eq_true rfl)
  rw [lg_entry_eq]
  generalize (lg_sl ([.ref b0, .int en]) ++ List.replicate (7 - (lg_sl ([.ref b0, .int en])).length) Slot.unset).toArray = ls at hl ⊢
  have hl : lv_has ls 7 [(0, .ref b0), (1, .int en)] := hl
  obtain ⟨QP, hQP⟩ : ∃ y : State → Prop, y = (MQ below (va_Qi (fun (r : Int32) (_ : Unit) => (((nw.toInt + 1 ≤ r.toInt ∧ r.toInt ≤ en.toInt)) ∧ r = (xc_nextBusy n nw FV go gw ga en))) (fun (_ : Unit) (t : State) => pw_t D cI cJ cZ cO A (([(b0, cbC r0 fl nw), (fl, flC cO n fa), (r0, rdC ov (va_rf ol) r1 r2 r3 r4 r5), (r1, chC cf cl zn 0), (r2, chC cf cl zn 1), (r3, chC cf cl zn 2), (r4, chC cf cl zn 3), (r5, tlC cI tf)] ++ va_pl L (pf cJ kd pi bd af bo)) ++ fls cJ fa FX FV FJ n) t) A) #[(.ref b0 : Value), (.int en : Value)] s 0 0 A) := ⟨_, rfl⟩
  obtain ⟨RES, hRES⟩ : ∃ y, y = (xc_nextBusy n nw FV go gw ga en) := ⟨_, rfl⟩
  -- from the entry
  have hE := hRES
  unfold xc_nextBusy at hE
  refine lv_iload_n hx hb dX10_nextBusyTick_0 rfl (lv_at hl 1 rfl) ?_
  refine lv_aload_n hx hb dX10_nextBusyTick_1 rfl (lv_at hl 0 rfl) ?_
  refine va_get (D := D) (ci := 10) (v := .ref r0) (C := RX10) (T := TX10) (N := 3) hx hb ha inlX10 hown hK hP 0 rfl rfl 0 (by decide) (ha _ kf_X10_10) (fun _ h9 => h9) rfl dX10_nextBusyTick_2 ?_
  have hp0 := perm_idx (X := [(b0, cbC r0 fl nw), (fl, flC cO n fa), (r0, rdC ov (va_rf ol) r1 r2 r3 r4 r5), (r1, chC cf cl zn 0), (r2, chC cf cl zn 1), (r3, chC cf cl zn 2), (r4, chC cf cl zn 3), (r5, tlC cI tf)]) (Y := [(r0, rdC ov (va_rf ol) r1 r2 r3 r4 r5), (r2, chC cf cl zn 1), (r3, chC cf cl zn 2)] ++ [(b0, cbC r0 fl nw), (fl, flC cO n fa), (r1, chC cf cl zn 0), (r4, chC cf cl zn 3), (r5, tlC cI tf)]) (N := 8) [2, 4, 5, 0, 1, 3, 6, 7] rfl rfl (by decide)
  have hPq := hP.perm (pm_P (cx := [(r0, rdC ov (va_rf ol) r1 r2 r3 r4 r5), (r2, chC cf cl zn 1), (r3, chC cf cl zn 2)]) (xr := [(b0, cbC r0 fl nw), (fl, flC cO n fa), (r1, chC cf cl zn 0), (r4, chC cf cl zn 3), (r5, tlC cI tf)]) (pl := va_pl L (pf cJ kd pi bd af bo)) (R := fls cJ fa FX FV FJ n) hp0)
  have hDq := hD.perm (pm_P (cx := [(r0, rdC ov (va_rf ol) r1 r2 r3 r4 r5), (r2, chC cf cl zn 1), (r3, chC cf cl zn 2)]) (xr := [(b0, cbC r0 fl nw), (fl, flC cO n fa), (r1, chC cf cl zn 0), (r4, chC cf cl zn 3), (r5, tlC cI tf)]) (pl := va_pl L (pf cJ kd pi bd af bo)) (R := fls cJ fa FX FV FJ n) hp0)
  have hPc := hPq.left
  have hDc := hDq.left
  have hFc := va_freeR hDq hS hA
  refine va_calli (va_runV (As := []) (rest := [.int en]) ⟨hx, hb, hml, hown, ha⟩ (s_nextDue l D cI cJ cZ cO _ r0 r1 r2 r3 r4 r5 ov ol cf cl zn xl tag L kd pi bd af bo go gq gw ga hR hPB hZ hG hJ) (cwV 0 ha (gaV kl_X10_146 km_X7_nextDue ks_X7_nextDue kz_X7 kd_X7_nextDue) rfl rfl rfl (by decide +kernel) ⟨Nat.le_of_ble_eq_true rfl, Nat.le_of_ble_eq_true rfl⟩) ⟨pw_blind, va_recv hK hPc (ci := 7) (q0 := 0) rfl rfl, fun U hU hW => ⟨rfl, pw_start hU hW hPc hK hDc hN⟩⟩ rfl rfl hl.1 rfl (lv_room (Nat.le_of_ble_eq_true rfl)) dX10_nextBusyTick_5 ⟨Nat.le_of_ble_eq_true rfl, Nat.le_of_ble_eq_true rfl⟩) hS (fun q _ h => hFc q h) hFc (fun r_17 u t H1 locs ht hvm hw hB hz1 hk1 hS => ?_)
  obtain ⟨hP1, hK1, hD1⟩ := hB
  have hE := bd_at rfl hE
  have hE := bd_at hw.2 hE
  rw [ht] at hP1
  obtain ⟨hP, hD⟩ := va_joinR (w1 := ([(r0, rdC ov (va_rf ol) r1 r2 r3 r4 r5), (r2, chC cf cl zn 1), (r3, chC cf cl zn 2)] ++ va_pl L (pf cJ kd pi bd af bo))) hPq hDq hk1 hFc hP1 hD1
  have hP := hP.perm (pm_Pb (xr := [(b0, cbC r0 fl nw), (fl, flC cO n fa), (r1, chC cf cl zn 0), (r4, chC cf cl zn 3), (r5, tlC cI tf)]) (rx := [(r0, rdC ov (va_rf ol) r1 r2 r3 r4 r5), (r2, chC cf cl zn 1), (r3, chC cf cl zn 2)]) (pl := va_pl L (pf cJ kd pi bd af bo)) (R := fls cJ fa FX FV FJ n))
  have hD := hD.perm (pm_Pb (xr := [(b0, cbC r0 fl nw), (fl, flC cO n fa), (r1, chC cf cl zn 0), (r4, chC cf cl zn 3), (r5, tlC cI tf)]) (rx := [(r0, rdC ov (va_rf ol) r1 r2 r3 r4 r5), (r2, chC cf cl zn 1), (r3, chC cf cl zn 2)]) (pl := va_pl L (pf cJ kd pi bd af bo)) (R := fls cJ fa FX FV FJ n))
  clear hp0 hPq hDq hPc hDc hP1 hD1
  generalize H1 = H at hP hS ⊢
  have hP : va_P D vwCl (([(b0, cbC r0 fl nw), (fl, flC cO n fa), (r1, chC cf cl zn 0), (r4, chC cf cl zn 3), (r5, tlC cI tf), (r0, rdC ov (va_rf ol) r1 r2 r3 r4 r5), (r2, chC cf cl zn 1), (r3, chC cf cl zn 2)] ++ va_pl L (pf cJ kd pi bd af bo)) ++ fls cJ fa FX FV FJ n) H := hP
  have hD : va_D A (([(b0, cbC r0 fl nw), (fl, flC cO n fa), (r1, chC cf cl zn 0), (r4, chC cf cl zn 3), (r5, tlC cI tf), (r0, rdC ov (va_rf ol) r1 r2 r3 r4 r5), (r2, chC cf cl zn 1), (r3, chC cf cl zn 2)] ++ va_pl L (pf cJ kd pi bd af bo)) ++ fls cJ fa FX FV FJ n) := hD
  have hpo := pm_X (pl := va_pl L (pf cJ kd pi bd af bo)) (R := fls cJ fa FX FV FJ n) (perm_idx (X := [(b0, cbC r0 fl nw), (fl, flC cO n fa), (r1, chC cf cl zn 0), (r4, chC cf cl zn 3), (r5, tlC cI tf), (r0, rdC ov (va_rf ol) r1 r2 r3 r4 r5), (r2, chC cf cl zn 1), (r3, chC cf cl zn 2)]) (Y := [(b0, cbC r0 fl nw), (fl, flC cO n fa), (r0, rdC ov (va_rf ol) r1 r2 r3 r4 r5), (r1, chC cf cl zn 0), (r2, chC cf cl zn 1), (r3, chC cf cl zn 2), (r4, chC cf cl zn 3), (r5, tlC cI tf)]) (N := 8) [0, 1, 5, 2, 6, 7, 3, 4] rfl rfl (by decide))
  have hP := hP.perm hpo
  have hD := hD.perm hpo
  clear hpo
  have hP : va_P D vwCl (([(b0, cbC r0 fl nw), (fl, flC cO n fa), (r0, rdC ov (va_rf ol) r1 r2 r3 r4 r5), (r1, chC cf cl zn 0), (r2, chC cf cl zn 1), (r3, chC cf cl zn 2), (r4, chC cf cl zn 3), (r5, tlC cI tf)] ++ va_pl L (pf cJ kd pi bd af bo)) ++ fls cJ fa FX FV FJ n) H := hP
  have hD : va_D A (([(b0, cbC r0 fl nw), (fl, flC cO n fa), (r0, rdC ov (va_rf ol) r1 r2 r3 r4 r5), (r1, chC cf cl zn 0), (r2, chC cf cl zn 1), (r3, chC cf cl zn 2), (r4, chC cf cl zn 3), (r5, tlC cI tf)] ++ va_pl L (pf cJ kd pi bd af bo)) ++ fls cJ fa FX FV FJ n) := hD
  refine W.widen (k := 0) (n := 0) (Nat.le_of_ble_eq_true rfl) (Nat.le_of_ble_eq_true rfl) ?_
  have hr_17 := hw.1
  refine va_mmin hx hb (hml.trans hl.1.symm) hown (ha _ kl_X10_150) (ha _ kt_min) (ha _ kz_J9) (ha _ kd_min) (Nat.le_of_ble_eq_true rfl) (Nat.le_of_ble_eq_true rfl) (Nat.le_of_ble_eq_true rfl) (Nat.le_of_ble_eq_true rfl) dX10_nextBusyTick_8 ?_
  refine lv_topi (fun x_18 ex_18 => ?_)
  have hE := bd_at ex_18 hE
  refine lv_istore_n (lv' := [(2, .int x_18), (0, .ref b0), (1, .int en)]) hx hb dX10_nextBusyTick_11 rfl hl (by decide) rfl (fun ls hl => ?_)
  refine lv_aload_n hx hb dX10_nextBusyTick_12 rfl (lv_at hl 1 rfl) ?_
  refine va_get (D := D) (ci := 10) (v := .ref fl) (C := RX10) (T := TX10) (N := 3) hx hb ha inlX10 hown hK hP 0 rfl rfl 1 (by decide) (ha _ kf_X10_18) (fun _ h9 => h9) rfl dX10_nextBusyTick_13 ?_
  refine lv_astore_n (lv' := [(3, .ref fl), (2, .int x_18), (0, .ref b0), (1, .int en)]) hx hb dX10_nextBusyTick_16 rfl hl (by decide) rfl (fun ls hl => ?_)
  refine lv_aload_n hx hb dX10_nextBusyTick_17 rfl (lv_at hl 0 rfl) ?_
  refine va_alen hx hb hK hP 1 3 (v := nI n) rfl rfl rfl dX10_nextBusyTick_18 ?_
  refine lv_istore (lv' := [(4, .int (nI n)), (3, .ref fl), (2, .int x_18), (0, .ref b0), (1, .int en)]) hx hb dX10_nextBusyTick_19 hl (by decide) rfl (fun ls hl => ?_)
  refine lv_iconst (v := 0) hx hb dX10_nextBusyTick_21 (by decide) ?_
  refine lv_istore (lv' := [(5, .int 0), (4, .int (nI n)), (3, .ref fl), (2, .int x_18), (0, .ref b0), (1, .int en)]) hx hb dX10_nextBusyTick_22 hl (by decide) rfl (fun ls hl => ?_)
  obtain ⟨QP, hQP⟩ : ∃ y : State → Prop, y = (MQ below (va_Qi (fun (r : Int32) (_ : Unit) => (((nw.toInt + 1 ≤ r.toInt ∧ r.toInt ≤ en.toInt)) ∧ r = (xc_nextBusy n nw FV go gw ga en))) (fun (_ : Unit) (t : State) => pw_t D cI cJ cZ cO A (([(b0, cbC r0 fl nw), (fl, flC cO n fa), (r0, rdC ov (va_rf ol) r1 r2 r3 r4 r5), (r1, chC cf cl zn 0), (r2, chC cf cl zn 1), (r3, chC cf cl zn 2), (r4, chC cf cl zn 3), (r5, tlC cI tf)] ++ va_pl L (pf cJ kd pi bd af bo)) ++ fls cJ fa FX FV FJ n) t) A) #[(.ref b0 : Value), (.int en : Value)] s 0 0 A) := ⟨_, rfl⟩
  have loop : ∀ (k : Nat) (j : Nat) (so : Int32) (H : Heap) (locs : List Loc), va_P D vwCl (([(b0, cbC r0 fl nw), (fl, flC cO n fa), (r0, rdC ov (va_rf ol) r1 r2 r3 r4 r5), (r1, chC cf cl zn 0), (r2, chC cf cl zn 1), (r3, chC cf cl zn 2), (r4, chC cf cl zn 3), (r5, tlC cI tf)] ++ va_pl L (pf cJ kd pi bd af bo)) ++ fls cJ fa FX FV FJ n) H → va_D A (([(b0, cbC r0 fl nw), (fl, flC cO n fa), (r0, rdC ov (va_rf ol) r1 r2 r3 r4 r5), (r1, chC cf cl zn 0), (r2, chC cf cl zn 1), (r3, chC cf cl zn 2), (r4, chC cf cl zn 3), (r5, tlC cI tf)] ++ va_pl L (pf cJ kd pi bd af bo)) ++ fls cJ fa FX FV FJ n) → va_S A s.heap H locs → j ≤ n → so ≤ en → ∀ (ls : Array Slot), lv_has ls 7 [(0, .ref b0), (1, .int en), (2, .int so), (3, .ref fl), (4, .int (nI n)), (5, .int (nI j))] → RES = xc_nb1 nw FV (n - j) j so → n - j < k → W p l e ({ frames := 2, cells := 0, slots := 0, locals := 61 }) s m #[(.ref b0 : Value), (.int en : Value)] below meth c H locs 0 0 QP (F0 m 24 ls []) := by
    intro k
    induction k with
    | zero => intros; exact absurd ‹_ < 0› (Nat.not_lt_zero _)
    | succ k ih =>
      intro j so H locs hP hD hS hjn hso ls hl hE hm
      refine lv_iload hx hb dX10_nextBusyTick_24 (lv_at hl 5 rfl) ?_
      refine lv_iload hx hb dX10_nextBusyTick_26 (lv_at hl 4 rfl) ?_
      refine lv_icmp_ge (tgt := 78) hx hb dX10_nextBusyTick_28 (by decide) (fun c_19 => ?_) (fun c_19 => ?_)
      · rw [nI_sub0 hjn hn c_19, xc_nb1] at hE
        refine lv_aload_n hx hb dX10_nextBusyTick_78 rfl (lv_at hl 0 rfl) ?_
        refine va_get (D := D) (ci := 10) (v := .int nw) (C := RX10) (T := TX10) (N := 3) hx hb ha inlX10 hown hK hP 0 rfl rfl 2 (by decide) (ha _ kf_X10_60) (fun _ h9 => h9) rfl dX10_nextBusyTick_79 ?_
        refine lv_iconst (v := 1) hx hb dX10_nextBusyTick_82 (by decide) ?_
        refine lv_iadd hx hb dX10_nextBusyTick_83 ?_
        refine lv_topi (fun x_20 ex_20 => ?_)
        have hE := bd_at ex_20 hE
        refine lv_iload_n hx hb dX10_nextBusyTick_84 rfl (lv_at hl 2 rfl) ?_
        refine va_mmax hx hb (hml.trans hl.1.symm) hown (ha _ kl_X10_171) (ha _ kt_max) (ha _ kz_J9) (ha _ kd_max) (Nat.le_of_ble_eq_true rfl) (Nat.le_of_ble_eq_true rfl) (Nat.le_of_ble_eq_true rfl) (Nat.le_of_ble_eq_true rfl) dX10_nextBusyTick_85 ?_
        refine lv_topi (fun x_21 ex_21 => ?_)
        have hE := bd_at ex_21 hE
        rw [hQP]
        have hP9 : va_P D vwCl (([(b0, cbC r0 fl nw), (fl, flC cO n fa), (r0, rdC ov (va_rf ol) r1 r2 r3 r4 r5), (r1, chC cf cl zn 0), (r2, chC cf cl zn 1), (r3, chC cf cl zn 2), (r4, chC cf cl zn 3), (r5, tlC cI tf)] ++ va_pl L (pf cJ kd pi bd af bo)) ++ fls cJ fa FX FV FJ n) _ := hP
        have hD9 : va_D A (([(b0, cbC r0 fl nw), (fl, flC cO n fa), (r0, rdC ov (va_rf ol) r1 r2 r3 r4 r5), (r1, chC cf cl zn 0), (r2, chC cf cl zn 1), (r3, chC cf cl zn 2), (r4, chC cf cl zn 3), (r5, tlC cI tf)] ++ va_pl L (pf cJ kd pi bd af bo)) ++ fls cJ fa FX FV FJ n) := hD
        exact W.iret (v := x_21) hx hb hr (fun t ht hW => ⟨⟨x_21, (), rfl, ⟨nb_end hn0 hn1 hn2 hso ex_20 ex_21, (by rw [← hRES, hE])⟩, ⟨by rw [ht]; exact hP9, va_K.moved hW.alike hK, hD9⟩⟩, hS.F ht⟩) hS.2.2 dX10_nextBusyTick_88
      · have hj : j < n := nI_lt_of hjn hn c_19
        rw [show n - j = (n - (j + 1)) + 1 by omega, xc_nb1] at hE
        refine lv_aload_n hx hb dX10_nextBusyTick_31 rfl (lv_at hl 3 rfl) ?_
        refine lv_iload hx hb dX10_nextBusyTick_32 (lv_at hl 5 rfl) ?_
        refine va_aldq hx hb hK hP 1 3 rfl rfl (vp_in_nI hj (by omega)) dX10_nextBusyTick_34 ?_
        rw [nI_clamp (show j < 2 ^ 31 by omega)]
        refine W.eq (g2 := F0 m 35 ls [.ref (fa j 0)]) rfl ?_
        obtain ⟨FA_22, FB_23, hfe_24, hfu_25⟩ := fls_at (cJ := cJ) (fa := fa) (FX := FX) (FV := FV) (FJ := FJ) hj
        have hpo := pm_open (X := [(b0, cbC r0 fl nw), (fl, flC cO n fa), (r0, rdC ov (va_rf ol) r1 r2 r3 r4 r5), (r1, chC cf cl zn 0), (r2, chC cf cl zn 1), (r3, chC cf cl zn 2), (r4, chC cf cl zn 3), (r5, tlC cI tf)]) (c := fcs cJ fa FX FV FJ j) (pl := va_pl L (pf cJ kd pi bd af bo)) hfe_24
        have hP := hP.perm hpo
        have hD := hD.perm hpo
        clear hpo
        have hP : va_P D vwCl (([(b0, cbC r0 fl nw), (fl, flC cO n fa), (r0, rdC ov (va_rf ol) r1 r2 r3 r4 r5), (r1, chC cf cl zn 0), (r2, chC cf cl zn 1), (r3, chC cf cl zn 2), (r4, chC cf cl zn 3), (r5, tlC cI tf), ((fa j 0), fwC (fa j 1) (fa j 9)), ((fa j 1), snC (FX j 0) (FX j 1) (FX j 2) (FV j 0) (fa j 2) (fa j 3) (fa j 8)), ((fa j 2), tmC (FV j 1)), ((fa j 3), boC (fa j 4) (fa j 6) (FV j 2)), ((fa j 4), mkC (fa j 5)), ((fa j 5), .inl (cJ, 4, .inr (.inl (FJ j 0)))), ((fa j 6), mkC (fa j 7)), ((fa j 7), .inl (cJ, 4, .inr (.inl (FJ j 1)))), ((fa j 8), cuC (FV j 3)), ((fa j 9), rcC (FX j 0) (FV j 4) (FX j 3) (fa j 10)), ((fa j 10), mkC (fa j 11)), ((fa j 11), .inl (cJ, 4, .inr (.inl (FJ j 2))))] ++ va_pl L (pf cJ kd pi bd af bo)) ++ (FA_22 ++ FB_23)) H := hP
        have hD : va_D A (([(b0, cbC r0 fl nw), (fl, flC cO n fa), (r0, rdC ov (va_rf ol) r1 r2 r3 r4 r5), (r1, chC cf cl zn 0), (r2, chC cf cl zn 1), (r3, chC cf cl zn 2), (r4, chC cf cl zn 3), (r5, tlC cI tf), ((fa j 0), fwC (fa j 1) (fa j 9)), ((fa j 1), snC (FX j 0) (FX j 1) (FX j 2) (FV j 0) (fa j 2) (fa j 3) (fa j 8)), ((fa j 2), tmC (FV j 1)), ((fa j 3), boC (fa j 4) (fa j 6) (FV j 2)), ((fa j 4), mkC (fa j 5)), ((fa j 5), .inl (cJ, 4, .inr (.inl (FJ j 0)))), ((fa j 6), mkC (fa j 7)), ((fa j 7), .inl (cJ, 4, .inr (.inl (FJ j 1)))), ((fa j 8), cuC (FV j 3)), ((fa j 9), rcC (FX j 0) (FV j 4) (FX j 3) (fa j 10)), ((fa j 10), mkC (fa j 11)), ((fa j 11), .inl (cJ, 4, .inr (.inl (FJ j 2))))] ++ va_pl L (pf cJ kd pi bd af bo)) ++ (FA_22 ++ FB_23)) := hD
        generalize hv0 : FV j 0 = sv at hP hD hE
        generalize hv1 : FV j 1 = tv at hP hD hE
        generalize hv2 : FV j 2 = bv at hP hD hE
        generalize hv3 : FV j 3 = cv at hP hD hE
        generalize hv4 : FV j 4 = rv at hP hD hE
        generalize hj0 : FJ j 0 = f at hP hD hE
        generalize hj1 : FJ j 1 = g at hP hD hE
        generalize hj2 : FJ j 2 = kf at hP hD hE
        refine lv_astore (lv' := [(6, .ref (fa j 0)), (0, .ref b0), (1, .int en), (2, .int so), (3, .ref fl), (4, .int (nI n)), (5, .int (nI j))]) hx hb dX10_nextBusyTick_35 hl (by decide) rfl (fun ls hl => ?_)
        refine lv_iload_n hx hb dX10_nextBusyTick_37 rfl (lv_at hl 3 rfl) ?_
        refine lv_aload hx hb dX10_nextBusyTick_38 (lv_at hl 0 rfl) ?_
        refine va_getN (D := D) (ci := 3) (v := .ref (fa j 9)) (C := RX3) (T := TX3) (N := 2) hx hb ha inlX3 hown hK hP 8 rfl rfl 1 (by decide) (va_Nw.use rfl (hN.f RX10 48 "CongestionBench$Flow" "receiver" "LCongestionBench$Receiver;" "CongestionBench" (by decide +kernel))) (fun _ h9 => h9) rfl dX10_nextBusyTick_40 ?_
        refine va_getN (D := D) (ci := 6) (v := .int (rv 9)) (C := RX6) (T := TX6) (N := 11) hx hb ha inlX6 hown hK hP 17 rfl rfl 9 (by decide) (va_Nw.use rfl (hN.f RX10 156 "CongestionBench$Receiver" "owedAt" "I" "CongestionBench" (by decide +kernel))) (fun _ h9 => h9) rfl dX10_nextBusyTick_43 ?_
        refine lv_topi (fun x_26 ex_26 => ?_)
        have hE := bd_at ex_26 hE
        have hp0 := perm_idx (X := [(b0, cbC r0 fl nw), (fl, flC cO n fa), (r0, rdC ov (va_rf ol) r1 r2 r3 r4 r5), (r1, chC cf cl zn 0), (r2, chC cf cl zn 1), (r3, chC cf cl zn 2), (r4, chC cf cl zn 3), (r5, tlC cI tf), ((fa j 0), fwC (fa j 1) (fa j 9)), ((fa j 1), snC (FX j 0) (FX j 1) (FX j 2) sv (fa j 2) (fa j 3) (fa j 8)), ((fa j 2), tmC tv), ((fa j 3), boC (fa j 4) (fa j 6) bv), ((fa j 4), mkC (fa j 5)), ((fa j 5), .inl (cJ, 4, .inr (.inl f))), ((fa j 6), mkC (fa j 7)), ((fa j 7), .inl (cJ, 4, .inr (.inl g))), ((fa j 8), cuC cv), ((fa j 9), rcC (FX j 0) rv (FX j 3) (fa j 10)), ((fa j 10), mkC (fa j 11)), ((fa j 11), .inl (cJ, 4, .inr (.inl kf)))]) (Y := [] ++ [(b0, cbC r0 fl nw), (fl, flC cO n fa), (r0, rdC ov (va_rf ol) r1 r2 r3 r4 r5), (r1, chC cf cl zn 0), (r2, chC cf cl zn 1), (r3, chC cf cl zn 2), (r4, chC cf cl zn 3), (r5, tlC cI tf), ((fa j 0), fwC (fa j 1) (fa j 9)), ((fa j 1), snC (FX j 0) (FX j 1) (FX j 2) sv (fa j 2) (fa j 3) (fa j 8)), ((fa j 2), tmC tv), ((fa j 3), boC (fa j 4) (fa j 6) bv), ((fa j 4), mkC (fa j 5)), ((fa j 5), .inl (cJ, 4, .inr (.inl f))), ((fa j 6), mkC (fa j 7)), ((fa j 7), .inl (cJ, 4, .inr (.inl g))), ((fa j 8), cuC cv), ((fa j 9), rcC (FX j 0) rv (FX j 3) (fa j 10)), ((fa j 10), mkC (fa j 11)), ((fa j 11), .inl (cJ, 4, .inr (.inl kf)))]) (N := 20) [0, 1, 2, 3, 4, 5, 6, 7, 8, 9, 10, 11, 12, 13, 14, 15, 16, 17, 18, 19] rfl rfl (by decide)
        have hPq := hP.perm (pm_Q (cx := []) (xr := [(b0, cbC r0 fl nw), (fl, flC cO n fa), (r0, rdC ov (va_rf ol) r1 r2 r3 r4 r5), (r1, chC cf cl zn 0), (r2, chC cf cl zn 1), (r3, chC cf cl zn 2), (r4, chC cf cl zn 3), (r5, tlC cI tf), ((fa j 0), fwC (fa j 1) (fa j 9)), ((fa j 1), snC (FX j 0) (FX j 1) (FX j 2) sv (fa j 2) (fa j 3) (fa j 8)), ((fa j 2), tmC tv), ((fa j 3), boC (fa j 4) (fa j 6) bv), ((fa j 4), mkC (fa j 5)), ((fa j 5), .inl (cJ, 4, .inr (.inl f))), ((fa j 6), mkC (fa j 7)), ((fa j 7), .inl (cJ, 4, .inr (.inl g))), ((fa j 8), cuC cv), ((fa j 9), rcC (FX j 0) rv (FX j 3) (fa j 10)), ((fa j 10), mkC (fa j 11)), ((fa j 11), .inl (cJ, 4, .inr (.inl kf)))]) (pl := va_pl L (pf cJ kd pi bd af bo)) (R := (FA_22 ++ FB_23)) hp0)
        have hDq := hD.perm (pm_Q (cx := []) (xr := [(b0, cbC r0 fl nw), (fl, flC cO n fa), (r0, rdC ov (va_rf ol) r1 r2 r3 r4 r5), (r1, chC cf cl zn 0), (r2, chC cf cl zn 1), (r3, chC cf cl zn 2), (r4, chC cf cl zn 3), (r5, tlC cI tf), ((fa j 0), fwC (fa j 1) (fa j 9)), ((fa j 1), snC (FX j 0) (FX j 1) (FX j 2) sv (fa j 2) (fa j 3) (fa j 8)), ((fa j 2), tmC tv), ((fa j 3), boC (fa j 4) (fa j 6) bv), ((fa j 4), mkC (fa j 5)), ((fa j 5), .inl (cJ, 4, .inr (.inl f))), ((fa j 6), mkC (fa j 7)), ((fa j 7), .inl (cJ, 4, .inr (.inl g))), ((fa j 8), cuC cv), ((fa j 9), rcC (FX j 0) rv (FX j 3) (fa j 10)), ((fa j 10), mkC (fa j 11)), ((fa j 11), .inl (cJ, 4, .inr (.inl kf)))]) (pl := va_pl L (pf cJ kd pi bd af bo)) (R := (FA_22 ++ FB_23)) hp0)
        have hPc := hPq.left
        have hDc := hDq.left
        have hFc := va_freeR hDq hS hA
        refine va_calli (va_runS (As := [.int x_26]) (rest := [.int so]) ⟨hx, hb, hml, hown, ha⟩ (c_orNever l D cI cJ cZ cO _ x_26) (va_cwS 1 ha (gaS kl_X10_159 kt_X10_orNever kz_X10 kd_X10_orNever) rfl rfl rfl (by decide +kernel) ⟨Nat.le_of_ble_eq_true rfl, Nat.le_of_ble_eq_true rfl⟩) ⟨pw_blind, fun U hU hW => ⟨rfl, pw_start hU hW hPc hK hDc hN⟩⟩ rfl rfl hl.1 rfl (lv_room (Nat.le_of_ble_eq_true rfl)) dX10_nextBusyTick_46 ⟨Nat.le_of_ble_eq_true rfl, Nat.le_of_ble_eq_true rfl⟩) hS (fun q _ h => hFc q h) hFc (fun r_27 u t H1 locs ht hvm hw hB hz1 hk1 hS => ?_)
        obtain ⟨hP1, hK1, hD1⟩ := hB
        rw [ht] at hP1
        obtain ⟨hP, hD⟩ := va_joinR (w1 := []) hPq hDq hk1 hFc hP1 hD1
        have hP := hP.perm (pm_Qb (xr := [(b0, cbC r0 fl nw), (fl, flC cO n fa), (r0, rdC ov (va_rf ol) r1 r2 r3 r4 r5), (r1, chC cf cl zn 0), (r2, chC cf cl zn 1), (r3, chC cf cl zn 2), (r4, chC cf cl zn 3), (r5, tlC cI tf), ((fa j 0), fwC (fa j 1) (fa j 9)), ((fa j 1), snC (FX j 0) (FX j 1) (FX j 2) sv (fa j 2) (fa j 3) (fa j 8)), ((fa j 2), tmC tv), ((fa j 3), boC (fa j 4) (fa j 6) bv), ((fa j 4), mkC (fa j 5)), ((fa j 5), .inl (cJ, 4, .inr (.inl f))), ((fa j 6), mkC (fa j 7)), ((fa j 7), .inl (cJ, 4, .inr (.inl g))), ((fa j 8), cuC cv), ((fa j 9), rcC (FX j 0) rv (FX j 3) (fa j 10)), ((fa j 10), mkC (fa j 11)), ((fa j 11), .inl (cJ, 4, .inr (.inl kf)))]) (w1 := []) (pl := va_pl L (pf cJ kd pi bd af bo)) (R := (FA_22 ++ FB_23)))
        have hD := hD.perm (pm_Qb (xr := [(b0, cbC r0 fl nw), (fl, flC cO n fa), (r0, rdC ov (va_rf ol) r1 r2 r3 r4 r5), (r1, chC cf cl zn 0), (r2, chC cf cl zn 1), (r3, chC cf cl zn 2), (r4, chC cf cl zn 3), (r5, tlC cI tf), ((fa j 0), fwC (fa j 1) (fa j 9)), ((fa j 1), snC (FX j 0) (FX j 1) (FX j 2) sv (fa j 2) (fa j 3) (fa j 8)), ((fa j 2), tmC tv), ((fa j 3), boC (fa j 4) (fa j 6) bv), ((fa j 4), mkC (fa j 5)), ((fa j 5), .inl (cJ, 4, .inr (.inl f))), ((fa j 6), mkC (fa j 7)), ((fa j 7), .inl (cJ, 4, .inr (.inl g))), ((fa j 8), cuC cv), ((fa j 9), rcC (FX j 0) rv (FX j 3) (fa j 10)), ((fa j 10), mkC (fa j 11)), ((fa j 11), .inl (cJ, 4, .inr (.inl kf)))]) (w1 := []) (pl := va_pl L (pf cJ kd pi bd af bo)) (R := (FA_22 ++ FB_23)))
        clear hp0 hPq hDq hPc hDc hP1 hD1
        generalize H1 = H at hP hS ⊢
        have hP : va_P D vwCl (([(b0, cbC r0 fl nw), (fl, flC cO n fa), (r0, rdC ov (va_rf ol) r1 r2 r3 r4 r5), (r1, chC cf cl zn 0), (r2, chC cf cl zn 1), (r3, chC cf cl zn 2), (r4, chC cf cl zn 3), (r5, tlC cI tf), ((fa j 0), fwC (fa j 1) (fa j 9)), ((fa j 1), snC (FX j 0) (FX j 1) (FX j 2) sv (fa j 2) (fa j 3) (fa j 8)), ((fa j 2), tmC tv), ((fa j 3), boC (fa j 4) (fa j 6) bv), ((fa j 4), mkC (fa j 5)), ((fa j 5), .inl (cJ, 4, .inr (.inl f))), ((fa j 6), mkC (fa j 7)), ((fa j 7), .inl (cJ, 4, .inr (.inl g))), ((fa j 8), cuC cv), ((fa j 9), rcC (FX j 0) rv (FX j 3) (fa j 10)), ((fa j 10), mkC (fa j 11)), ((fa j 11), .inl (cJ, 4, .inr (.inl kf)))] ++ va_pl L (pf cJ kd pi bd af bo)) ++ (FA_22 ++ FB_23)) H := hP
        have hD : va_D A (([(b0, cbC r0 fl nw), (fl, flC cO n fa), (r0, rdC ov (va_rf ol) r1 r2 r3 r4 r5), (r1, chC cf cl zn 0), (r2, chC cf cl zn 1), (r3, chC cf cl zn 2), (r4, chC cf cl zn 3), (r5, tlC cI tf), ((fa j 0), fwC (fa j 1) (fa j 9)), ((fa j 1), snC (FX j 0) (FX j 1) (FX j 2) sv (fa j 2) (fa j 3) (fa j 8)), ((fa j 2), tmC tv), ((fa j 3), boC (fa j 4) (fa j 6) bv), ((fa j 4), mkC (fa j 5)), ((fa j 5), .inl (cJ, 4, .inr (.inl f))), ((fa j 6), mkC (fa j 7)), ((fa j 7), .inl (cJ, 4, .inr (.inl g))), ((fa j 8), cuC cv), ((fa j 9), rcC (FX j 0) rv (FX j 3) (fa j 10)), ((fa j 10), mkC (fa j 11)), ((fa j 11), .inl (cJ, 4, .inr (.inl kf)))] ++ va_pl L (pf cJ kd pi bd af bo)) ++ (FA_22 ++ FB_23)) := hD
        refine W.widen (k := 0) (n := 0) (Nat.le_of_ble_eq_true rfl) (Nat.le_of_ble_eq_true rfl) ?_
        have hr_27 := hw
        have hE := bd_at hr_27 hE
        refine va_mmin hx hb (hml.trans hl.1.symm) hown (ha _ kl_X10_150) (ha _ kt_min) (ha _ kz_J9) (ha _ kd_min) (Nat.le_of_ble_eq_true rfl) (Nat.le_of_ble_eq_true rfl) (Nat.le_of_ble_eq_true rfl) (Nat.le_of_ble_eq_true rfl) dX10_nextBusyTick_49 ?_
        refine lv_topi (fun x_28 ex_28 => ?_)
        have hE := bd_at ex_28 hE
        refine lv_istore_n (lv' := [(2, .int x_28), (6, .ref (fa j 0)), (0, .ref b0), (1, .int en), (3, .ref fl), (4, .int (nI n)), (5, .int (nI j))]) hx hb dX10_nextBusyTick_52 rfl hl (by decide) rfl (fun ls hl => ?_)
        refine lv_iload_n hx hb dX10_nextBusyTick_53 rfl (lv_at hl 0 rfl) ?_
        refine lv_aload hx hb dX10_nextBusyTick_54 (lv_at hl 1 rfl) ?_
        refine va_getN (D := D) (ci := 3) (v := .ref (fa j 1)) (C := RX3) (T := TX3) (N := 2) hx hb ha inlX3 hown hK hP 8 rfl rfl 0 (by decide) (va_Nw.use rfl (hN.f RX10 38 "CongestionBench$Flow" "sender" "LCongestionBench$Sender;" "CongestionBench" (by decide +kernel))) (fun _ h9 => h9) rfl dX10_nextBusyTick_56 ?_
        refine va_getN (D := D) (ci := 8) (v := .ref (fa j 2)) (C := RX8) (T := TX8) (N := 20) hx hb ha inlX8 hown hK hP 9 rfl rfl 17 (by decide) (va_Nw.use rfl (hN.f RX10 162 "CongestionBench$Sender" "timer" "LCongestionBench$Timer;" "CongestionBench" (by decide +kernel))) (fun _ h9 => h9) rfl dX10_nextBusyTick_59 ?_
        refine va_getN (D := D) (ci := 9) (v := .int (tv 3)) (C := RX9) (T := TX9) (N := 6) hx hb ha inlX9 hown hK hP 10 rfl rfl 3 (by decide) (va_Nw.use rfl (hN.f RX10 166 "CongestionBench$Timer" "due" "I" "CongestionBench" (by decide +kernel))) (fun _ h9 => h9) rfl dX10_nextBusyTick_62 ?_
        refine lv_topi (fun x_29 ex_29 => ?_)
        have hE := bd_at ex_29 hE
        have hp0 := perm_idx (X := [(b0, cbC r0 fl nw), (fl, flC cO n fa), (r0, rdC ov (va_rf ol) r1 r2 r3 r4 r5), (r1, chC cf cl zn 0), (r2, chC cf cl zn 1), (r3, chC cf cl zn 2), (r4, chC cf cl zn 3), (r5, tlC cI tf), ((fa j 0), fwC (fa j 1) (fa j 9)), ((fa j 1), snC (FX j 0) (FX j 1) (FX j 2) sv (fa j 2) (fa j 3) (fa j 8)), ((fa j 2), tmC tv), ((fa j 3), boC (fa j 4) (fa j 6) bv), ((fa j 4), mkC (fa j 5)), ((fa j 5), .inl (cJ, 4, .inr (.inl f))), ((fa j 6), mkC (fa j 7)), ((fa j 7), .inl (cJ, 4, .inr (.inl g))), ((fa j 8), cuC cv), ((fa j 9), rcC (FX j 0) rv (FX j 3) (fa j 10)), ((fa j 10), mkC (fa j 11)), ((fa j 11), .inl (cJ, 4, .inr (.inl kf)))]) (Y := [] ++ [(b0, cbC r0 fl nw), (fl, flC cO n fa), (r0, rdC ov (va_rf ol) r1 r2 r3 r4 r5), (r1, chC cf cl zn 0), (r2, chC cf cl zn 1), (r3, chC cf cl zn 2), (r4, chC cf cl zn 3), (r5, tlC cI tf), ((fa j 0), fwC (fa j 1) (fa j 9)), ((fa j 1), snC (FX j 0) (FX j 1) (FX j 2) sv (fa j 2) (fa j 3) (fa j 8)), ((fa j 2), tmC tv), ((fa j 3), boC (fa j 4) (fa j 6) bv), ((fa j 4), mkC (fa j 5)), ((fa j 5), .inl (cJ, 4, .inr (.inl f))), ((fa j 6), mkC (fa j 7)), ((fa j 7), .inl (cJ, 4, .inr (.inl g))), ((fa j 8), cuC cv), ((fa j 9), rcC (FX j 0) rv (FX j 3) (fa j 10)), ((fa j 10), mkC (fa j 11)), ((fa j 11), .inl (cJ, 4, .inr (.inl kf)))]) (N := 20) [0, 1, 2, 3, 4, 5, 6, 7, 8, 9, 10, 11, 12, 13, 14, 15, 16, 17, 18, 19] rfl rfl (by decide)
        have hPq := hP.perm (pm_Q (cx := []) (xr := [(b0, cbC r0 fl nw), (fl, flC cO n fa), (r0, rdC ov (va_rf ol) r1 r2 r3 r4 r5), (r1, chC cf cl zn 0), (r2, chC cf cl zn 1), (r3, chC cf cl zn 2), (r4, chC cf cl zn 3), (r5, tlC cI tf), ((fa j 0), fwC (fa j 1) (fa j 9)), ((fa j 1), snC (FX j 0) (FX j 1) (FX j 2) sv (fa j 2) (fa j 3) (fa j 8)), ((fa j 2), tmC tv), ((fa j 3), boC (fa j 4) (fa j 6) bv), ((fa j 4), mkC (fa j 5)), ((fa j 5), .inl (cJ, 4, .inr (.inl f))), ((fa j 6), mkC (fa j 7)), ((fa j 7), .inl (cJ, 4, .inr (.inl g))), ((fa j 8), cuC cv), ((fa j 9), rcC (FX j 0) rv (FX j 3) (fa j 10)), ((fa j 10), mkC (fa j 11)), ((fa j 11), .inl (cJ, 4, .inr (.inl kf)))]) (pl := va_pl L (pf cJ kd pi bd af bo)) (R := (FA_22 ++ FB_23)) hp0)
        have hDq := hD.perm (pm_Q (cx := []) (xr := [(b0, cbC r0 fl nw), (fl, flC cO n fa), (r0, rdC ov (va_rf ol) r1 r2 r3 r4 r5), (r1, chC cf cl zn 0), (r2, chC cf cl zn 1), (r3, chC cf cl zn 2), (r4, chC cf cl zn 3), (r5, tlC cI tf), ((fa j 0), fwC (fa j 1) (fa j 9)), ((fa j 1), snC (FX j 0) (FX j 1) (FX j 2) sv (fa j 2) (fa j 3) (fa j 8)), ((fa j 2), tmC tv), ((fa j 3), boC (fa j 4) (fa j 6) bv), ((fa j 4), mkC (fa j 5)), ((fa j 5), .inl (cJ, 4, .inr (.inl f))), ((fa j 6), mkC (fa j 7)), ((fa j 7), .inl (cJ, 4, .inr (.inl g))), ((fa j 8), cuC cv), ((fa j 9), rcC (FX j 0) rv (FX j 3) (fa j 10)), ((fa j 10), mkC (fa j 11)), ((fa j 11), .inl (cJ, 4, .inr (.inl kf)))]) (pl := va_pl L (pf cJ kd pi bd af bo)) (R := (FA_22 ++ FB_23)) hp0)
        have hPc := hPq.left
        have hDc := hDq.left
        have hFc := va_freeR hDq hS hA
        refine va_calli (va_runS (As := [.int x_29]) (rest := [.int x_28]) ⟨hx, hb, hml, hown, ha⟩ (c_orNever l D cI cJ cZ cO _ x_29) (va_cwS 1 ha (gaS kl_X10_159 kt_X10_orNever kz_X10 kd_X10_orNever) rfl rfl rfl (by decide +kernel) ⟨Nat.le_of_ble_eq_true rfl, Nat.le_of_ble_eq_true rfl⟩) ⟨pw_blind, fun U hU hW => ⟨rfl, pw_start hU hW hPc hK hDc hN⟩⟩ rfl rfl hl.1 rfl (lv_room (Nat.le_of_ble_eq_true rfl)) dX10_nextBusyTick_65 ⟨Nat.le_of_ble_eq_true rfl, Nat.le_of_ble_eq_true rfl⟩) hS (fun q _ h => hFc q h) hFc (fun r_30 u t H1 locs ht hvm hw hB hz1 hk1 hS => ?_)
        obtain ⟨hP1, hK1, hD1⟩ := hB
        rw [ht] at hP1
        obtain ⟨hP, hD⟩ := va_joinR (w1 := []) hPq hDq hk1 hFc hP1 hD1
        have hP := hP.perm (pm_Qb (xr := [(b0, cbC r0 fl nw), (fl, flC cO n fa), (r0, rdC ov (va_rf ol) r1 r2 r3 r4 r5), (r1, chC cf cl zn 0), (r2, chC cf cl zn 1), (r3, chC cf cl zn 2), (r4, chC cf cl zn 3), (r5, tlC cI tf), ((fa j 0), fwC (fa j 1) (fa j 9)), ((fa j 1), snC (FX j 0) (FX j 1) (FX j 2) sv (fa j 2) (fa j 3) (fa j 8)), ((fa j 2), tmC tv), ((fa j 3), boC (fa j 4) (fa j 6) bv), ((fa j 4), mkC (fa j 5)), ((fa j 5), .inl (cJ, 4, .inr (.inl f))), ((fa j 6), mkC (fa j 7)), ((fa j 7), .inl (cJ, 4, .inr (.inl g))), ((fa j 8), cuC cv), ((fa j 9), rcC (FX j 0) rv (FX j 3) (fa j 10)), ((fa j 10), mkC (fa j 11)), ((fa j 11), .inl (cJ, 4, .inr (.inl kf)))]) (w1 := []) (pl := va_pl L (pf cJ kd pi bd af bo)) (R := (FA_22 ++ FB_23)))
        have hD := hD.perm (pm_Qb (xr := [(b0, cbC r0 fl nw), (fl, flC cO n fa), (r0, rdC ov (va_rf ol) r1 r2 r3 r4 r5), (r1, chC cf cl zn 0), (r2, chC cf cl zn 1), (r3, chC cf cl zn 2), (r4, chC cf cl zn 3), (r5, tlC cI tf), ((fa j 0), fwC (fa j 1) (fa j 9)), ((fa j 1), snC (FX j 0) (FX j 1) (FX j 2) sv (fa j 2) (fa j 3) (fa j 8)), ((fa j 2), tmC tv), ((fa j 3), boC (fa j 4) (fa j 6) bv), ((fa j 4), mkC (fa j 5)), ((fa j 5), .inl (cJ, 4, .inr (.inl f))), ((fa j 6), mkC (fa j 7)), ((fa j 7), .inl (cJ, 4, .inr (.inl g))), ((fa j 8), cuC cv), ((fa j 9), rcC (FX j 0) rv (FX j 3) (fa j 10)), ((fa j 10), mkC (fa j 11)), ((fa j 11), .inl (cJ, 4, .inr (.inl kf)))]) (w1 := []) (pl := va_pl L (pf cJ kd pi bd af bo)) (R := (FA_22 ++ FB_23)))
        clear hp0 hPq hDq hPc hDc hP1 hD1
        generalize H1 = H at hP hS ⊢
        have hP : va_P D vwCl (([(b0, cbC r0 fl nw), (fl, flC cO n fa), (r0, rdC ov (va_rf ol) r1 r2 r3 r4 r5), (r1, chC cf cl zn 0), (r2, chC cf cl zn 1), (r3, chC cf cl zn 2), (r4, chC cf cl zn 3), (r5, tlC cI tf), ((fa j 0), fwC (fa j 1) (fa j 9)), ((fa j 1), snC (FX j 0) (FX j 1) (FX j 2) sv (fa j 2) (fa j 3) (fa j 8)), ((fa j 2), tmC tv), ((fa j 3), boC (fa j 4) (fa j 6) bv), ((fa j 4), mkC (fa j 5)), ((fa j 5), .inl (cJ, 4, .inr (.inl f))), ((fa j 6), mkC (fa j 7)), ((fa j 7), .inl (cJ, 4, .inr (.inl g))), ((fa j 8), cuC cv), ((fa j 9), rcC (FX j 0) rv (FX j 3) (fa j 10)), ((fa j 10), mkC (fa j 11)), ((fa j 11), .inl (cJ, 4, .inr (.inl kf)))] ++ va_pl L (pf cJ kd pi bd af bo)) ++ (FA_22 ++ FB_23)) H := hP
        have hD : va_D A (([(b0, cbC r0 fl nw), (fl, flC cO n fa), (r0, rdC ov (va_rf ol) r1 r2 r3 r4 r5), (r1, chC cf cl zn 0), (r2, chC cf cl zn 1), (r3, chC cf cl zn 2), (r4, chC cf cl zn 3), (r5, tlC cI tf), ((fa j 0), fwC (fa j 1) (fa j 9)), ((fa j 1), snC (FX j 0) (FX j 1) (FX j 2) sv (fa j 2) (fa j 3) (fa j 8)), ((fa j 2), tmC tv), ((fa j 3), boC (fa j 4) (fa j 6) bv), ((fa j 4), mkC (fa j 5)), ((fa j 5), .inl (cJ, 4, .inr (.inl f))), ((fa j 6), mkC (fa j 7)), ((fa j 7), .inl (cJ, 4, .inr (.inl g))), ((fa j 8), cuC cv), ((fa j 9), rcC (FX j 0) rv (FX j 3) (fa j 10)), ((fa j 10), mkC (fa j 11)), ((fa j 11), .inl (cJ, 4, .inr (.inl kf)))] ++ va_pl L (pf cJ kd pi bd af bo)) ++ (FA_22 ++ FB_23)) := hD
        refine W.widen (k := 0) (n := 0) (Nat.le_of_ble_eq_true rfl) (Nat.le_of_ble_eq_true rfl) ?_
        have hr_30 := hw
        have hE := bd_at hr_30 hE
        refine va_mmin hx hb (hml.trans hl.1.symm) hown (ha _ kl_X10_150) (ha _ kt_min) (ha _ kz_J9) (ha _ kd_min) (Nat.le_of_ble_eq_true rfl) (Nat.le_of_ble_eq_true rfl) (Nat.le_of_ble_eq_true rfl) (Nat.le_of_ble_eq_true rfl) dX10_nextBusyTick_68 ?_
        refine lv_topi (fun x_31 ex_31 => ?_)
        have hE := bd_at ex_31 hE
        refine lv_istore_n (lv' := [(2, .int x_31), (6, .ref (fa j 0)), (0, .ref b0), (1, .int en), (3, .ref fl), (4, .int (nI n)), (5, .int (nI j))]) hx hb dX10_nextBusyTick_71 rfl hl (by decide) rfl (fun ls hl => ?_)
        have hEz := hE
        subst hv0
        subst hv1
        subst hv2
        subst hv3
        subst hv4
        subst hj0
        subst hj1
        subst hj2
        have hE := hEz
        have hpo := pm_close (X := [(b0, cbC r0 fl nw), (fl, flC cO n fa), (r0, rdC ov (va_rf ol) r1 r2 r3 r4 r5), (r1, chC cf cl zn 0), (r2, chC cf cl zn 1), (r3, chC cf cl zn 2), (r4, chC cf cl zn 3), (r5, tlC cI tf)]) (c := fcs cJ fa FX FV FJ j) (pl := va_pl L (pf cJ kd pi bd af bo)) hfe_24 (perm_idx (X := [(b0, cbC r0 fl nw), (fl, flC cO n fa), (r0, rdC ov (va_rf ol) r1 r2 r3 r4 r5), (r1, chC cf cl zn 0), (r2, chC cf cl zn 1), (r3, chC cf cl zn 2), (r4, chC cf cl zn 3), (r5, tlC cI tf), ((fa j 0), fwC (fa j 1) (fa j 9)), ((fa j 1), snC (FX j 0) (FX j 1) (FX j 2) (FV j 0) (fa j 2) (fa j 3) (fa j 8)), ((fa j 2), tmC (FV j 1)), ((fa j 3), boC (fa j 4) (fa j 6) (FV j 2)), ((fa j 4), mkC (fa j 5)), ((fa j 5), .inl (cJ, 4, .inr (.inl (FJ j 0)))), ((fa j 6), mkC (fa j 7)), ((fa j 7), .inl (cJ, 4, .inr (.inl (FJ j 1)))), ((fa j 8), cuC (FV j 3)), ((fa j 9), rcC (FX j 0) (FV j 4) (FX j 3) (fa j 10)), ((fa j 10), mkC (fa j 11)), ((fa j 11), .inl (cJ, 4, .inr (.inl (FJ j 2))))]) (Y := [(b0, cbC r0 fl nw), (fl, flC cO n fa), (r0, rdC ov (va_rf ol) r1 r2 r3 r4 r5), (r1, chC cf cl zn 0), (r2, chC cf cl zn 1), (r3, chC cf cl zn 2), (r4, chC cf cl zn 3), (r5, tlC cI tf), ((fa j 0), fwC (fa j 1) (fa j 9)), ((fa j 1), snC (FX j 0) (FX j 1) (FX j 2) (FV j 0) (fa j 2) (fa j 3) (fa j 8)), ((fa j 2), tmC (FV j 1)), ((fa j 3), boC (fa j 4) (fa j 6) (FV j 2)), ((fa j 4), mkC (fa j 5)), ((fa j 5), .inl (cJ, 4, .inr (.inl (FJ j 0)))), ((fa j 6), mkC (fa j 7)), ((fa j 7), .inl (cJ, 4, .inr (.inl (FJ j 1)))), ((fa j 8), cuC (FV j 3)), ((fa j 9), rcC (FX j 0) (FV j 4) (FX j 3) (fa j 10)), ((fa j 10), mkC (fa j 11)), ((fa j 11), .inl (cJ, 4, .inr (.inl (FJ j 2))))]) (N := 20) [0, 1, 2, 3, 4, 5, 6, 7, 8, 9, 10, 11, 12, 13, 14, 15, 16, 17, 18, 19] rfl rfl (by decide))
        have hP := hP.perm hpo
        have hD := hD.perm hpo
        clear hpo hfu_25
        have hP : va_P D vwCl (([(b0, cbC r0 fl nw), (fl, flC cO n fa), (r0, rdC ov (va_rf ol) r1 r2 r3 r4 r5), (r1, chC cf cl zn 0), (r2, chC cf cl zn 1), (r3, chC cf cl zn 2), (r4, chC cf cl zn 3), (r5, tlC cI tf)] ++ va_pl L (pf cJ kd pi bd af bo)) ++ fls cJ fa FX FV FJ n) H := hP
        have hD : va_D A (([(b0, cbC r0 fl nw), (fl, flC cO n fa), (r0, rdC ov (va_rf ol) r1 r2 r3 r4 r5), (r1, chC cf cl zn 0), (r2, chC cf cl zn 1), (r3, chC cf cl zn 2), (r4, chC cf cl zn 3), (r5, tlC cI tf)] ++ va_pl L (pf cJ kd pi bd af bo)) ++ fls cJ fa FX FV FJ n) := hD
        obtain ⟨x_32, ex_32⟩ : ∃ y : Int32, y = (nI j) + 1 := ⟨_, rfl⟩
        refine lv_iinc (v := x_32) (lv' := [(5, .int x_32), (2, .int x_31), (6, .ref (fa j 0)), (0, .ref b0), (1, .int en), (3, .ref fl), (4, .int (nI n))]) hx hb dX10_nextBusyTick_72 hl (k := 6) rfl (by rw [ex_32]; rfl) (by decide) rfl (fun ls hl => ?_)
        refine lv_goto (tgt := 24) hx hb dX10_nextBusyTick_75 (by decide) ?_
        have hx9 : x_32 = nI (j + 1) := by rw [ex_32, nI_1]
        rw [hx9] at hl
        exact ih (j + 1) x_31 _ _ hP hD hS (by omega) (Int32.le_trans (mn_le ex_31) (Int32.le_trans (mn_le ex_28) hso)) _ (lv_sub hl [3, 4, 1, 5, 6, 0] rfl) hE (by omega)
  rw [hQP] at loop
  exact loop (n + 1) 0 x_18 _ _ hP hD hS (Nat.zero_le _) (mn_le ex_18) _ (lv_sub hl [4, 5, 3, 2, 1, 0] rfl) hE (by omega)

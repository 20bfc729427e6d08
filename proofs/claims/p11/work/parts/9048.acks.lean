set_option maxRecDepth 100000 in
def xc_acks (n : Nat) (FX : Nat → Nat → Int32) (nw : Int32) : List A6 → (Nat → Int32) → (Nat → Int32) → FVt → FJt → (Option S4) → (List S3) → (List S4) → BS
  | [], ov, tf, FV, FJ, go, gq, gw => (ov, tf, FV, FJ, go, gq, gw, [])
  | c :: ga, ov, tf, FV, FJ, go, gq, gw => if c.1 ≤ nw then bd c.2.1 (fun x1 => bd (isf x1 n) (fun r1 => if r1 = 0 then xc_acks n FX nw ga ov tf FV FJ go gq gw else bd c.2.1 (fun x2 => bd (xc_hear ov go gq tf (FX x2.toNatClampNeg 0) (FX x2.toNatClampNeg 1) (FX x2.toNatClampNeg 2) (FV x2.toNatClampNeg 0) (FV x2.toNatClampNeg 1) (FV x2.toNatClampNeg 2) (FV x2.toNatClampNeg 3) (FJ x2.toNatClampNeg 0) (FJ x2.toNatClampNeg 1) nw c) (fun t1 => bd t1.1 (fun sv => bd t1.2.1 (fun tv => bd t1.2.2.1 (fun bv => bd t1.2.2.2.1 (fun cv => bd t1.2.2.2.2.1 (fun f => bd t1.2.2.2.2.2.1 (fun g => bd t1.2.2.2.2.2.2.1 (fun ov => bd t1.2.2.2.2.2.2.2.1 (fun tf => bd t1.2.2.2.2.2.2.2.2.1 (fun go => bd t1.2.2.2.2.2.2.2.2.2 (fun gq => bd (va_up FV x2.toNatClampNeg (fpk sv tv bv cv (FV x2.toNatClampNeg 4))) (fun FV => bd (va_up FJ x2.toNatClampNeg (fpj f g (FJ x2.toNatClampNeg 2))) (fun FJ => xc_acks n FX nw ga ov tf FV FJ go gq gw)))))))))))))))) else (ov, tf, FV, FJ, go, gq, gw, c :: ga)
theorem acks_stop {n : Nat} {FX : Nat → Nat → Int32} {nw : Int32} {gw : List S4} {ov tf : Nat → Int32} {FV : FVt} {FJ : FJt} {go : Option S4} {gq : List S3} {ga : List A6} (h : ∀ c, ga.head? = some c → nw < c.1) : xc_acks n FX nw ga ov tf FV FJ go gq gw = (ov, tf, FV, FJ, go, gq, gw, ga) := by
  cases ga with
  | nil => rfl
  | cons c t =>
    rw [xc_acks]
    exact if_neg (Int32.not_le.mpr (h c rfl))

def xc_bringAcks (n : Nat) (FX : Nat → Nat → Int32) (nw : Int32) (ov tf : Nat → Int32) (FV : FVt) (FJ : FJt) (go : Option S4) (gq : List S3) (gw : List S4) (ga : List A6) : BS := xc_acks n FX nw ga ov tf FV FJ go gq gw
set_option maxHeartbeats 4000000 in
set_option maxRecDepth 100000 in
theorem s_bringAcks (l : Launch) (D : va_G) (cI cJ cZ cO : ClassId) (Hh : Heap) (b0 fl : Nat) (nw : Int32) (n : Nat) (fa : Nat → Nat → Nat) (FX : Nat → Nat → Int32) (FV : Nat → Nat → Nat → Int32) (FJ : Nat → Nat → Nat → Int64) (hn : n ≤ 4) (r0 r1 r2 r3 r4 r5 : Nat) (ov : Nat → Int32) (ol : Option Nat) (cf cl : Nat → Option Nat) (zn : Nat → Int32) (xl : Nat → List Nat) (tag : Nat → Nat) (L : List Nat) (kd : Nat → Bool) (pi : Nat → Nat → Int32) (bd : Nat → Nat) (af : Nat → Option Nat) (bo : Nat → Nat → Int64) (go : Option S4) (gq : List S3) (gw : List S4) (ga : List A6) (tf : Nat → Int32) (W0 A0 : List Int32) (t0 : Nat) (d : Int32) (b : Nat) (pw pa : Prop) (hR : RI L kd af tag cf cl xl ol) (hPB : PB L kd pi bd) (hZ : ZN zn xl) (hG : GG xl pi bd bo ol go gq gw ga) (hJ : JB L kd bd) (hT : 0 ≤ ov 10) (hLK : LK ov) (hK0 : TK W0 A0 t0 nw d 8 pw pa xl pi ol b) (hwd : nw < d) (hc : 120 + W0.length + A0.length ≤ 12000) : Met l yX10_bringAcks (wa yX10_bringAcks cX10_bringAcks 3 none) ({ frames := 6, cells := 24010, slots := 132110, locals := 141 }) (va_Pc [.ref b0] (pw_h D cI cJ cZ cO Hh (([(b0, cbC r0 fl nw), (fl, flC cO n fa), (r0, rdC ov (va_rf ol) r1 r2 r3 r4 r5), (r1, chC cf cl zn 0), (r2, chC cf cl zn 1), (r3, chC cf cl zn 2), (r4, chC cf cl zn 3), (r5, tlC cI tf)] ++ va_pl L (pf cJ kd pi bd af bo)) ++ fls cJ fa FX FV FJ n))) (va_Qv (fun (_ : Unit) => True) (fun (_ : Unit) (t : State) => ∃ (ov2 tf2 : Nat → Int32) (ol2 : Option Nat) (cf2 cl2 : Nat → Option Nat) (zn2 : Nat → Int32) (xl2 : Nat → List Nat) (tag2 : Nat → Nat) (L2 : List Nat) (kd2 : Nat → Bool) (pi2 : Nat → Nat → Int32) (bd2 : Nat → Nat) (af2 : Nat → Option Nat) (bo2 : Nat → Nat → Int64) (b2 : Nat) (go2 : Option S4) (gq2 : List S3) (gw2 : List S4) (ga2 : List A6) (FV2 : Nat → Nat → Nat → Int32) (FJ2 : Nat → Nat → Nat → Int64), ((RI L2 kd2 af2 tag2 cf2 cl2 xl2 ol2 ∧ PB L2 kd2 pi2 bd2 ∧ ZN zn2 xl2 ∧ 0 ≤ ov2 10 ∧ gr Hh t.heap b2 ∧ LK ov2 ∧ TK W0 A0 t0 nw d 8 pw True xl2 pi2 ol2 (b + b2)) ∧ (GG xl2 pi2 bd2 bo2 ol2 go2 gq2 gw2 ga2 ∧ JB L2 kd2 bd2) ∧ ov2 = (xc_bringAcks n FX nw ov tf FV FJ go gq gw ga).1 ∧ tf2 = (xc_bringAcks n FX nw ov tf FV FJ go gq gw ga).2.1 ∧ FV2 = (xc_bringAcks n FX nw ov tf FV FJ go gq gw ga).2.2.1 ∧ FJ2 = (xc_bringAcks n FX nw ov tf FV FJ go gq gw ga).2.2.2.1 ∧ go2 = (xc_bringAcks n FX nw ov tf FV FJ go gq gw ga).2.2.2.2.1 ∧ gq2 = (xc_bringAcks n FX nw ov tf FV FJ go gq gw ga).2.2.2.2.2.1 ∧ gw2 = (xc_bringAcks n FX nw ov tf FV FJ go gq gw ga).2.2.2.2.2.2.1 ∧ ga2 = (xc_bringAcks n FX nw ov tf FV FJ go gq gw ga).2.2.2.2.2.2.2) ∧ pw_t D cI cJ cZ cO (va_A (([(b0, cbC r0 fl nw), (fl, flC cO n fa), (r0, rdC ov (va_rf ol) r1 r2 r3 r4 r5), (r1, chC cf cl zn 0), (r2, chC cf cl zn 1), (r3, chC cf cl zn 2), (r4, chC cf cl zn 3), (r5, tlC cI tf)] ++ va_pl L (pf cJ kd pi bd af bo)) ++ fls cJ fa FX FV FJ n) Hh.size) (([(b0, cbC r0 fl nw), (fl, flC cO n fa), (r0, rdC ov2 (va_rf ol2) r1 r2 r3 r4 r5), (r1, chC cf2 cl2 zn2 0), (r2, chC cf2 cl2 zn2 1), (r3, chC cf2 cl2 zn2 2), (r4, chC cf2 cl2 zn2 3), (r5, tlC cI tf2)] ++ va_pl L2 (pf cJ kd2 pi2 bd2 af2 bo2)) ++ fls cJ fa FX FV2 FJ2 n) t) (va_A (([(b0, cbC r0 fl nw), (fl, flC cO n fa), (r0, rdC ov (va_rf ol) r1 r2 r3 r4 r5), (r1, chC cf cl zn 0), (r2, chC cf cl zn 1), (r3, chC cf cl zn 2), (r4, chC cf cl zn 3), (r5, tlC cI tf)] ++ va_pl L (pf cJ kd pi bd af bo)) ++ fls cJ fa FX FV FJ n) Hh.size)) 24010 132110 (va_A (([(b0, cbC r0 fl nw), (fl, flC cO n fa), (r0, rdC ov (va_rf ol) r1 r2 r3 r4 r5), (r1, chC cf cl zn 0), (r2, chC cf cl zn 1), (r3, chC cf cl zn 2), (r4, chC cf cl zn 3), (r5, tlC cI tf)] ++ va_pl L (pf cJ kd pi bd af bo)) ++ fls cJ fa FX FV FJ n) Hh.size) := by
  refine Met.ofW (cc := cX10_bringAcks) (maxL := 3) (ret := none) (by decide) rfl ?_
  intro p e s m args below meth c s₁ B hml hv
  obtain ⟨rfl, hsz, hP, hK, hD0, hN⟩ := hv
  have hx := B.exec
  have hb := B.bytes
  have hr := B.returns
  have hts := atoms_spec (ws := (wa yX10_bringAcks cX10_bringAcks 3 none)) B.pre
  have ha : ∀ w ∈ wsL_law, w.before _ s = true := fun w h => hts w (List.mem_cons_of_mem _ h)
  have hown : s.vm.findClass RX10 = some m.cls := findClass_of_methodNamed B.named
  have hlocks := B.notSynchronized
  subst hsz
  have hD := hD0.self (sz := s.heap.size)
  generalize hAe : va_A (([(b0, cbC r0 fl nw), (fl, flC cO n fa), (r0, rdC ov (va_rf ol) r1 r2 r3 r4 r5), (r1, chC cf cl zn 0), (r2, chC cf cl zn 1), (r3, chC cf cl zn 2), (r4, chC cf cl zn 3), (r5, tlC cI tf)] ++ va_pl L (pf cJ kd pi bd af bo)) ++ fls cJ fa FX FV FJ n) s.heap.size = A at hD ⊢
  have hA : ∀ q : Nat, s.heap.size ≤ q → A q := fun q h => by rw [← hAe]; exact Or.inr h
  have hS : va_S A s.heap s.heap [] := va_S.rf
  have hP : va_P D vwCl (([(b0, cbC r0 fl nw), (fl, flC cO n fa), (r0, rdC ov (va_rf ol) r1 r2 r3 r4 r5), (r1, chC cf cl zn 0), (r2, chC cf cl zn 1), (r3, chC cf cl zn 2), (r4, chC cf cl zn 3), (r5, tlC cI tf)] ++ va_pl L (pf cJ kd pi bd af bo)) ++ fls cJ fa FX FV FJ n) s.heap := hP
  have hl := lv_entry ([.ref b0]) (n := 3) (Nat.le_of_ble_eq_true rfl)
  rw [lg_entry_eq]
  generalize (lg_sl ([.ref b0]) ++ List.replicate (3 - (lg_sl ([.ref b0])).length) Slot.unset).toArray = ls at hl ⊢
  have hl : lv_has ls 3 [(0, .ref b0)] := hl
  obtain ⟨QP, hQP⟩ : ∃ y : State → Prop, y = (MQ below (va_Qv (fun (_ : Unit) => True) (fun (_ : Unit) (t : State) => ∃ (ov2 tf2 : Nat → Int32) (ol2 : Option Nat) (cf2 cl2 : Nat → Option Nat) (zn2 : Nat → Int32) (xl2 : Nat → List Nat) (tag2 : Nat → Nat) (L2 : List Nat) (kd2 : Nat → Bool) (pi2 : Nat → Nat → Int32) (bd2 : Nat → Nat) (af2 : Nat → Option Nat) (bo2 : Nat → Nat → Int64) (b2 : Nat) (go2 : Option S4) (gq2 : List S3) (gw2 : List S4) (ga2 : List A6) (FV2 : Nat → Nat → Nat → Int32) (FJ2 : Nat → Nat → Nat → Int64), ((RI L2 kd2 af2 tag2 cf2 cl2 xl2 ol2 ∧ PB L2 kd2 pi2 bd2 ∧ ZN zn2 xl2 ∧ 0 ≤ ov2 10 ∧ gr s.heap t.heap b2 ∧ LK ov2 ∧ TK W0 A0 t0 nw d 8 pw True xl2 pi2 ol2 (b + b2)) ∧ (GG xl2 pi2 bd2 bo2 ol2 go2 gq2 gw2 ga2 ∧ JB L2 kd2 bd2) ∧ ov2 = (xc_bringAcks n FX nw ov tf FV FJ go gq gw ga).1 ∧ tf2 = (xc_bringAcks n FX nw ov tf FV FJ go gq gw ga).2.1 ∧ FV2 = (xc_bringAcks n FX nw ov tf FV FJ go gq gw ga).2.2.1 ∧ FJ2 = (xc_bringAcks n FX nw ov tf FV FJ go gq gw ga).2.2.2.1 ∧ go2 = (xc_bringAcks n FX nw ov tf FV FJ go gq gw ga).2.2.2.2.1 ∧ gq2 = (xc_bringAcks n FX nw ov tf FV FJ go gq gw ga).2.2.2.2.2.1 ∧ gw2 = (xc_bringAcks n FX nw ov tf FV FJ go gq gw ga).2.2.2.2.2.2.1 ∧ ga2 = (xc_bringAcks n FX nw ov tf FV FJ go gq gw ga).2.2.2.2.2.2.2) ∧ pw_t D cI cJ cZ cO A (([(b0, cbC r0 fl nw), (fl, flC cO n fa), (r0, rdC ov2 (va_rf ol2) r1 r2 r3 r4 r5), (r1, chC cf2 cl2 zn2 0), (r2, chC cf2 cl2 zn2 1), (r3, chC cf2 cl2 zn2 2), (r4, chC cf2 cl2 zn2 3), (r5, tlC cI tf2)] ++ va_pl L2 (pf cJ kd2 pi2 bd2 af2 bo2)) ++ fls cJ fa FX FV2 FJ2 n) t) A) #[(.ref b0 : Value)] s 24010 132110 A) := ⟨_, rfl⟩
  obtain ⟨RES, hRES⟩ : ∃ y, y = (xc_bringAcks n FX nw ov tf FV FJ go gq gw ga) := ⟨_, rfl⟩
  -- from the entry
  have hE := hRES
  unfold xc_bringAcks at hE
  refine lv_aload_n hx hb dX10_bringAcks_0 rfl (lv_at hl 0 rfl) ?_
  refine va_get (D := D) (ci := 10) (v := .ref r0) (C := RX10) (T := TX10) (N := 3) hx hb ha inlX10 hown hK hP 0 rfl rfl 0 (by decide) (ha _ kf_X10_10) (fun _ h9 => h9) rfl dX10_bringAcks_1 ?_
  refine va_getN (D := D) (ci := 7) (v := .ref r3) (C := RX7) (T := TX7) (N := 15) hx hb ha inlX7 hown hK hP 2 rfl rfl 7 (by decide) (va_Nw.use rfl (hN.f RX10 140 "CongestionBench$Road" "acks" "LCongestionBench$Chain;" "CongestionBench" (by decide +kernel))) (fun _ h9 => h9) rfl dX10_bringAcks_4 ?_
  refine va_getN (D := D) (ci := 1) (v := .int (zn 2)) (C := RX1) (T := TX1) (N := 3) hx hb ha inlX1 hown hK hP 5 rfl rfl 2 (by decide) (va_Nw.use rfl (hN.f RX10 106 "CongestionBench$Chain" "size" "I" "CongestionBench" (by decide +kernel))) (fun _ h9 => h9) rfl dX10_bringAcks_7 ?_
  refine lv_istore_n (lv' := [(1, .int (zn 2)), (0, .ref b0)]) hx hb dX10_bringAcks_10 rfl hl (by decide) rfl (fun ls hl => ?_)
  obtain ⟨QP, hQP⟩ : ∃ y : State → Prop, y = (MQ below (va_Qv (fun (_ : Unit) => True) (fun (_ : Unit) (t : State) => ∃ (ov2 tf2 : Nat → Int32) (ol2 : Option Nat) (cf2 cl2 : Nat → Option Nat) (zn2 : Nat → Int32) (xl2 : Nat → List Nat) (tag2 : Nat → Nat) (L2 : List Nat) (kd2 : Nat → Bool) (pi2 : Nat → Nat → Int32) (bd2 : Nat → Nat) (af2 : Nat → Option Nat) (bo2 : Nat → Nat → Int64) (b2 : Nat) (go2 : Option S4) (gq2 : List S3) (gw2 : List S4) (ga2 : List A6) (FV2 : Nat → Nat → Nat → Int32) (FJ2 : Nat → Nat → Nat → Int64), ((RI L2 kd2 af2 tag2 cf2 cl2 xl2 ol2 ∧ PB L2 kd2 pi2 bd2 ∧ ZN zn2 xl2 ∧ 0 ≤ ov2 10 ∧ gr s.heap t.heap b2 ∧ LK ov2 ∧ TK W0 A0 t0 nw d 8 pw True xl2 pi2 ol2 (b + b2)) ∧ (GG xl2 pi2 bd2 bo2 ol2 go2 gq2 gw2 ga2 ∧ JB L2 kd2 bd2) ∧ ov2 = (xc_bringAcks n FX nw ov tf FV FJ go gq gw ga).1 ∧ tf2 = (xc_bringAcks n FX nw ov tf FV FJ go gq gw ga).2.1 ∧ FV2 = (xc_bringAcks n FX nw ov tf FV FJ go gq gw ga).2.2.1 ∧ FJ2 = (xc_bringAcks n FX nw ov tf FV FJ go gq gw ga).2.2.2.1 ∧ go2 = (xc_bringAcks n FX nw ov tf FV FJ go gq gw ga).2.2.2.2.1 ∧ gq2 = (xc_bringAcks n FX nw ov tf FV FJ go gq gw ga).2.2.2.2.2.1 ∧ gw2 = (xc_bringAcks n FX nw ov tf FV FJ go gq gw ga).2.2.2.2.2.2.1 ∧ ga2 = (xc_bringAcks n FX nw ov tf FV FJ go gq gw ga).2.2.2.2.2.2.2) ∧ pw_t D cI cJ cZ cO A (([(b0, cbC r0 fl nw), (fl, flC cO n fa), (r0, rdC ov2 (va_rf ol2) r1 r2 r3 r4 r5), (r1, chC cf2 cl2 zn2 0), (r2, chC cf2 cl2 zn2 1), (r3, chC cf2 cl2 zn2 2), (r4, chC cf2 cl2 zn2 3), (r5, tlC cI tf2)] ++ va_pl L2 (pf cJ kd2 pi2 bd2 af2 bo2)) ++ fls cJ fa FX FV2 FJ2 n) t) A) #[(.ref b0 : Value)] s 24010 132110 A) := ⟨_, rfl⟩
  have loop : ∀ (k : Nat) (c0 : Nat) (lf : Int32) (ov tf : Nat → Int32) (ol : Option Nat) (cf cl : Nat → Option Nat) (zn : Nat → Int32) (xl : Nat → List Nat) (tag : Nat → Nat) (L : List Nat) (kd : Nat → Bool) (pi : Nat → Nat → Int32) (bd : Nat → Nat) (af : Nat → Option Nat) (bo : Nat → Nat → Int64) (go : Option S4) (gq : List S3) (gw : List S4) (ga : List A6) (FV : Nat → Nat → Nat → Int32) (FJ : Nat → Nat → Nat → Int64) (H : Heap) (locs : List Loc), va_P D vwCl (([(b0, cbC r0 fl nw), (fl, flC cO n fa), (r0, rdC ov (va_rf ol) r1 r2 r3 r4 r5), (r1, chC cf cl zn 0), (r2, chC cf cl zn 1), (r3, chC cf cl zn 2), (r4, chC cf cl zn 3), (r5, tlC cI tf)] ++ va_pl L (pf cJ kd pi bd af bo)) ++ fls cJ fa FX FV FJ n) H → va_D A (([(b0, cbC r0 fl nw), (fl, flC cO n fa), (r0, rdC ov (va_rf ol) r1 r2 r3 r4 r5), (r1, chC cf cl zn 0), (r2, chC cf cl zn 1), (r3, chC cf cl zn 2), (r4, chC cf cl zn 3), (r5, tlC cI tf)] ++ va_pl L (pf cJ kd pi bd af bo)) ++ fls cJ fa FX FV FJ n) → va_S A s.heap H locs → RI L kd af tag cf cl xl ol → PB L kd pi bd → ZN zn xl → GG xl pi bd bo ol go gq gw ga → JB L kd bd → 0 ≤ ov 10 → LK ov → TK W0 A0 t0 nw d 8 pw pa xl pi ol (b + c0) → gr s.heap H (0 + c0) → lf = nI (xl 2).length → ∀ (ls : Array Slot), lv_has ls 3 [(0, .ref b0), (1, .int lf)] → RES = xc_acks n FX nw ga ov tf FV FJ go gq gw → (xl 2).length < k → W p l e ({ frames := 6, cells := 24010, slots := 132110, locals := 141 }) s m #[(.ref b0 : Value)] below meth c H locs (2 * (0 + c0)) (11 * (0 + c0)) QP (F0 m 11 ls []) := by
    intro k
    induction k with
    | zero => intros; exact absurd ‹_ < 0› (Nat.not_lt_zero _)
    | succ k ih =>
      intro c0 lf ov tf ol cf cl zn xl tag L kd pi bd af bo go gq gw ga FV FJ H locs hP hD hS hR hPB hZ hG hJ hT hLK hTK hg0 hlf ls hl hE hm
      have hB_c0 : c0 ≤ 12000 := by have := (TK_b hTK).1; omega
      refine lv_iload_n hx hb dX10_bringAcks_11 rfl (lv_at hl 1 rfl) ?_
      refine lv_if_le (tgt := 89) hx hb dX10_bringAcks_12 (by decide) (fun c_45 => ?_) (fun c_45 => ?_)
      · rw [hQP]
        have hdone : ∀ z, (xl 2).head? = some z → nw < pi 0 z := fun z hz => by have h8 := TK_len hTK; have h9 := nI_le0 (k := (xl 2).length) (by omega) (by rw [← hlf]; exact c_45); rw [List.length_eq_zero_iff.mp h9] at hz; cases hz
        have hE := hE.trans (acks_stop (gg_hd2 hG hdone))
        have hTK := TK_doneA hTK hdone
        refine W.know2 (fun hk1 hk2 => ?_)
        have hg0 : gr s.heap _ (0 + c0) := ⟨hk1, hk2⟩
        rw [show b + c0 = b + (0 + c0) by omega] at hTK
        refine W.widen (k := 24010) (n := 132110) (by omega) (by omega) ?_
        have hP9 : va_P D vwCl (([(b0, cbC r0 fl nw), (fl, flC cO n fa), (r0, rdC ov (va_rf ol) r1 r2 r3 r4 r5), (r1, chC cf cl zn 0), (r2, chC cf cl zn 1), (r3, chC cf cl zn 2), (r4, chC cf cl zn 3), (r5, tlC cI tf)] ++ va_pl L (pf cJ kd pi bd af bo)) ++ fls cJ fa FX FV FJ n) _ := hP
        have hD9 : va_D A (([(b0, cbC r0 fl nw), (fl, flC cO n fa), (r0, rdC ov (va_rf ol) r1 r2 r3 r4 r5), (r1, chC cf cl zn 0), (r2, chC cf cl zn 1), (r3, chC cf cl zn 2), (r4, chC cf cl zn 3), (r5, tlC cI tf)] ++ va_pl L (pf cJ kd pi bd af bo)) ++ fls cJ fa FX FV FJ n) := hD
        exact W.vret hx hb hr (fun t ht hW => ⟨⟨(), rfl, trivial, ⟨ov, tf, ol, cf, cl, zn, xl, tag, L, kd, pi, bd, af, bo, (0 + c0), go, gq, gw, ga, FV, FJ, ⟨⟨hR, hPB, hZ, hT, by rw [ht]; exact hg0, hLK, hTK⟩, ⟨hG, hJ⟩, (by rw [← hRES, hE]), (by rw [← hRES, hE]), (by rw [← hRES, hE]), (by rw [← hRES, hE]), (by rw [← hRES, hE]), (by rw [← hRES, hE]), (by rw [← hRES, hE]), (by rw [← hRES, hE])⟩, by rw [ht]; exact hP9, va_K.moved hW.alike hK, hD9⟩⟩, hS.F ht⟩) hS.2.2 dX10_bringAcks_89
      · refine lv_aload_n hx hb dX10_bringAcks_15 rfl (lv_at hl 0 rfl) ?_
        refine va_get (D := D) (ci := 10) (v := .ref r0) (C := RX10) (T := TX10) (N := 3) hx hb ha inlX10 hown hK hP 0 rfl rfl 0 (by decide) (ha _ kf_X10_10) (fun _ h9 => h9) rfl dX10_bringAcks_16 ?_
        refine va_getN (D := D) (ci := 7) (v := .ref r3) (C := RX7) (T := TX7) (N := 15) hx hb ha inlX7 hown hK hP 2 rfl rfl 7 (by decide) (va_Nw.use rfl (hN.f RX10 140 "CongestionBench$Road" "acks" "LCongestionBench$Chain;" "CongestionBench" (by decide +kernel))) (fun _ h9 => h9) rfl dX10_bringAcks_19 ?_
        refine lv_aload_n hx hb dX10_bringAcks_22 rfl (lv_at hl 0 rfl) ?_
        refine va_get (D := D) (ci := 10) (v := .int nw) (C := RX10) (T := TX10) (N := 3) hx hb ha inlX10 hown hK hP 0 rfl rfl 2 (by decide) (ha _ kf_X10_60) (fun _ h9 => h9) rfl dX10_bringAcks_23 ?_
        have hp0 := perm_idx (X := [(b0, cbC r0 fl nw), (fl, flC cO n fa), (r0, rdC ov (va_rf ol) r1 r2 r3 r4 r5), (r1, chC cf cl zn 0), (r2, chC cf cl zn 1), (r3, chC cf cl zn 2), (r4, chC cf cl zn 3), (r5, tlC cI tf)]) (Y := [(r3, chC cf cl zn 2)] ++ [(b0, cbC r0 fl nw), (fl, flC cO n fa), (r0, rdC ov (va_rf ol) r1 r2 r3 r4 r5), (r1, chC cf cl zn 0), (r2, chC cf cl zn 1), (r4, chC cf cl zn 3), (r5, tlC cI tf)]) (N := 8) [5, 0, 1, 2, 3, 4, 6, 7] rfl rfl (by decide)
        have hPq := hP.perm (pm_P (cx := [(r3, chC cf cl zn 2)]) (xr := [(b0, cbC r0 fl nw), (fl, flC cO n fa), (r0, rdC ov (va_rf ol) r1 r2 r3 r4 r5), (r1, chC cf cl zn 0), (r2, chC cf cl zn 1), (r4, chC cf cl zn 3), (r5, tlC cI tf)]) (pl := va_pl L (pf cJ kd pi bd af bo)) (R := fls cJ fa FX FV FJ n) hp0)
        have hDq := hD.perm (pm_P (cx := [(r3, chC cf cl zn 2)]) (xr := [(b0, cbC r0 fl nw), (fl, flC cO n fa), (r0, rdC ov (va_rf ol) r1 r2 r3 r4 r5), (r1, chC cf cl zn 0), (r2, chC cf cl zn 1), (r4, chC cf cl zn 3), (r5, tlC cI tf)]) (pl := va_pl L (pf cJ kd pi bd af bo)) (R := fls cJ fa FX FV FJ n) hp0)
        have hPc := hPq.left
        have hDc := hDq.left
        have hFc := va_freeR hDq hS hA
        refine va_callq (va_runV (As := [.int nw]) (rest := []) ⟨hx, hb, hml, hown, ha⟩ (s_takeDue2 l D cI cJ cZ cO _ r3 L kd pi bd af bo (cf 2) (cl 2) (zn 2) nw (RI_fi hR (by decide)) (RI_cl hR (by decide))) (cwV 1 ha (gaV kl_X10_111 km_X1_takeDue ks_X1_takeDue kz_X1 kd_X1_takeDue) rfl rfl rfl (by decide +kernel) ⟨Nat.le_of_ble_eq_true rfl, Nat.le_of_ble_eq_true rfl⟩) ⟨pw_blind, va_recv hK hPc (ci := 1) (q0 := 0) rfl rfl, fun U hU hW => ⟨rfl, pw_start hU hW hPc hK hDc hN⟩⟩ rfl rfl hl.1 rfl (lv_room (Nat.le_of_ble_eq_true rfl)) dX10_bringAcks_26 ⟨show 2 * (0 + c0) + 0 ≤ 24010 by omega, show 11 * (0 + c0) + 0 ≤ 132110 by omega⟩) hS (fun q _ h => hFc q h) hFc (fun r_46 u t H1 locs ht hvm hw hB hz1 hk1 hS => ?_)
        obtain ⟨hP1, hK1, hD1⟩ := hB
        rw [ht] at hP1
        obtain ⟨hP, hD⟩ := va_joinR (w1 := ([(r3, .inr (1, [va_rf (cond u (tk_fi af (cf 2)) (cf 2)), va_rf (cond u (tk_la af (cf 2) (cl 2)) (cl 2)), .int (cond u (tk_n (cf 2) (zn 2)) (zn 2))]))] ++ va_pl L (pf cJ kd pi bd (cond u (tk_af af (cf 2)) af) bo))) hPq hDq hk1 hFc hP1 hD1
        have hP := hP.perm (pm_Pb (xr := [(b0, cbC r0 fl nw), (fl, flC cO n fa), (r0, rdC ov (va_rf ol) r1 r2 r3 r4 r5), (r1, chC cf cl zn 0), (r2, chC cf cl zn 1), (r4, chC cf cl zn 3), (r5, tlC cI tf)]) (rx := [(r3, .inr (1, [va_rf (cond u (tk_fi af (cf 2)) (cf 2)), va_rf (cond u (tk_la af (cf 2) (cl 2)) (cl 2)), .int (cond u (tk_n (cf 2) (zn 2)) (zn 2))]))]) (pl := va_pl L (pf cJ kd pi bd (cond u (tk_af af (cf 2)) af) bo)) (R := fls cJ fa FX FV FJ n))
        have hD := hD.perm (pm_Pb (xr := [(b0, cbC r0 fl nw), (fl, flC cO n fa), (r0, rdC ov (va_rf ol) r1 r2 r3 r4 r5), (r1, chC cf cl zn 0), (r2, chC cf cl zn 1), (r4, chC cf cl zn 3), (r5, tlC cI tf)]) (rx := [(r3, .inr (1, [va_rf (cond u (tk_fi af (cf 2)) (cf 2)), va_rf (cond u (tk_la af (cf 2) (cl 2)) (cl 2)), .int (cond u (tk_n (cf 2) (zn 2)) (zn 2))]))]) (pl := va_pl L (pf cJ kd pi bd (cond u (tk_af af (cf 2)) af) bo)) (R := fls cJ fa FX FV FJ n))
        clear hp0 hPq hDq hPc hDc hP1 hD1
        generalize H1 = H at hP hS ⊢
        have hP : va_P D vwCl (([(b0, cbC r0 fl nw), (fl, flC cO n fa), (r0, rdC ov (va_rf ol) r1 r2 r3 r4 r5), (r1, chC cf cl zn 0), (r2, chC cf cl zn 1), (r4, chC cf cl zn 3), (r5, tlC cI tf), (r3, .inr (1, [va_rf (cond u (tk_fi af (cf 2)) (cf 2)), va_rf (cond u (tk_la af (cf 2) (cl 2)) (cl 2)), .int (cond u (tk_n (cf 2) (zn 2)) (zn 2))]))] ++ va_pl L (pf cJ kd pi bd (cond u (tk_af af (cf 2)) af) bo)) ++ fls cJ fa FX FV FJ n) H := hP
        have hD : va_D A (([(b0, cbC r0 fl nw), (fl, flC cO n fa), (r0, rdC ov (va_rf ol) r1 r2 r3 r4 r5), (r1, chC cf cl zn 0), (r2, chC cf cl zn 1), (r4, chC cf cl zn 3), (r5, tlC cI tf), (r3, .inr (1, [va_rf (cond u (tk_fi af (cf 2)) (cf 2)), va_rf (cond u (tk_la af (cf 2) (cl 2)) (cl 2)), .int (cond u (tk_n (cf 2) (zn 2)) (zn 2))]))] ++ va_pl L (pf cJ kd pi bd (cond u (tk_af af (cf 2)) af) bo)) ++ fls cJ fa FX FV FJ n) := hD
        have hpo := pm_X (pl := va_pl L (pf cJ kd pi bd (cond u (tk_af af (cf 2)) af) bo)) (R := fls cJ fa FX FV FJ n) (perm_idx (X := [(b0, cbC r0 fl nw), (fl, flC cO n fa), (r0, rdC ov (va_rf ol) r1 r2 r3 r4 r5), (r1, chC cf cl zn 0), (r2, chC cf cl zn 1), (r4, chC cf cl zn 3), (r5, tlC cI tf), (r3, .inr (1, [va_rf (cond u (tk_fi af (cf 2)) (cf 2)), va_rf (cond u (tk_la af (cf 2) (cl 2)) (cl 2)), .int (cond u (tk_n (cf 2) (zn 2)) (zn 2))]))]) (Y := [(b0, cbC r0 fl nw), (fl, flC cO n fa), (r0, rdC ov (va_rf ol) r1 r2 r3 r4 r5), (r1, chC cf cl zn 0), (r2, chC cf cl zn 1), (r3, .inr (1, [va_rf (cond u (tk_fi af (cf 2)) (cf 2)), va_rf (cond u (tk_la af (cf 2) (cl 2)) (cl 2)), .int (cond u (tk_n (cf 2) (zn 2)) (zn 2))])), (r4, chC cf cl zn 3), (r5, tlC cI tf)]) (N := 8) [0, 1, 2, 3, 4, 7, 5, 6] rfl rfl (by decide))
        have hP := hP.perm hpo
        have hD := hD.perm hpo
        clear hpo
        have hP : va_P D vwCl (([(b0, cbC r0 fl nw), (fl, flC cO n fa), (r0, rdC ov (va_rf ol) r1 r2 r3 r4 r5), (r1, chC cf cl zn 0), (r2, chC cf cl zn 1), (r3, .inr (1, [va_rf (cond u (tk_fi af (cf 2)) (cf 2)), va_rf (cond u (tk_la af (cf 2) (cl 2)) (cl 2)), .int (cond u (tk_n (cf 2) (zn 2)) (zn 2))])), (r4, chC cf cl zn 3), (r5, tlC cI tf)] ++ va_pl L (pf cJ kd pi bd (cond u (tk_af af (cf 2)) af) bo)) ++ fls cJ fa FX FV FJ n) H := hP
        have hD : va_D A (([(b0, cbC r0 fl nw), (fl, flC cO n fa), (r0, rdC ov (va_rf ol) r1 r2 r3 r4 r5), (r1, chC cf cl zn 0), (r2, chC cf cl zn 1), (r3, .inr (1, [va_rf (cond u (tk_fi af (cf 2)) (cf 2)), va_rf (cond u (tk_la af (cf 2) (cl 2)) (cl 2)), .int (cond u (tk_n (cf 2) (zn 2)) (zn 2))])), (r4, chC cf cl zn 3), (r5, tlC cI tf)] ++ va_pl L (pf cJ kd pi bd (cond u (tk_af af (cf 2)) af) bo)) ++ fls cJ fa FX FV FJ n) := hD
        refine W.widen (k := 2 * (0 + c0)) (n := 11 * (0 + c0)) (Nat.le_refl _) (Nat.le_refl _) ?_
        have hr_46 := hw
        cases u with
        | false =>
          have hP : va_P D vwCl (([(b0, cbC r0 fl nw), (fl, flC cO n fa), (r0, rdC ov (va_rf ol) r1 r2 r3 r4 r5), (r1, chC cf cl zn 0), (r2, chC cf cl zn 1), (r3, chC cf cl zn 2), (r4, chC cf cl zn 3), (r5, tlC cI tf)] ++ va_pl L (pf cJ kd pi bd af bo)) ++ fls cJ fa FX FV FJ n) _ := hP
          have hD : va_D A (([(b0, cbC r0 fl nw), (fl, flC cO n fa), (r0, rdC ov (va_rf ol) r1 r2 r3 r4 r5), (r1, chC cf cl zn 0), (r2, chC cf cl zn 1), (r3, chC cf cl zn 2), (r4, chC cf cl zn 3), (r5, tlC cI tf)] ++ va_pl L (pf cJ kd pi bd af bo)) ++ fls cJ fa FX FV FJ n) := hD
          have hdone : ∀ z, (xl 2).head? = some z → nw < pi 0 z := fun z hz => by have h5 := hr_46.2.1 rfl; rw [(hR.1 2 (by decide)).1.1, hz] at h5; exact h5
          obtain rfl : r_46 = none := hr_46.1
          refine lv_astore_nN (lv' := [(2, .null), (0, .ref b0), (1, .int lf)]) hx hb dX10_bringAcks_29 rfl hl (by decide) rfl (fun ls hl => ?_)
          refine lv_aload_nN hx hb dX10_bringAcks_30 rfl (lv_at hl 0 rfl) ?_
          refine lv_ifnonnullN hx hb dX10_bringAcks_31 ?_
          refine lv_goto (tgt := 89) hx hb dX10_bringAcks_34 (by decide) ?_
          rw [hQP]
          have hE := hE.trans (acks_stop (gg_hd2 hG hdone))
          have hTK := TK_doneA hTK hdone
          refine W.know2 (fun hk1 hk2 => ?_)
          have hg0 : gr s.heap _ (0 + c0) := ⟨hk1, hk2⟩
          rw [show b + c0 = b + (0 + c0) by omega] at hTK
          refine W.widen (k := 24010) (n := 132110) (by omega) (by omega) ?_
          have hP9 : va_P D vwCl (([(b0, cbC r0 fl nw), (fl, flC cO n fa), (r0, rdC ov (va_rf ol) r1 r2 r3 r4 r5), (r1, chC cf cl zn 0), (r2, chC cf cl zn 1), (r3, chC cf cl zn 2), (r4, chC cf cl zn 3), (r5, tlC cI tf)] ++ va_pl L (pf cJ kd pi bd af bo)) ++ fls cJ fa FX FV FJ n) _ := hP
          have hD9 : va_D A (([(b0, cbC r0 fl nw), (fl, flC cO n fa), (r0, rdC ov (va_rf ol) r1 r2 r3 r4 r5), (r1, chC cf cl zn 0), (r2, chC cf cl zn 1), (r3, chC cf cl zn 2), (r4, chC cf cl zn 3), (r5, tlC cI tf)] ++ va_pl L (pf cJ kd pi bd af bo)) ++ fls cJ fa FX FV FJ n) := hD
          exact W.vret hx hb hr (fun t ht hW => ⟨⟨(), rfl, trivial, ⟨ov, tf, ol, cf, cl, zn, xl, tag, L, kd, pi, bd, af, bo, (0 + c0), go, gq, gw, ga, FV, FJ, ⟨⟨hR, hPB, hZ, hT, by rw [ht]; exact hg0, hLK, hTK⟩, ⟨hG, hJ⟩, (by rw [← hRES, hE]), (by rw [← hRES, hE]), (by rw [← hRES, hE]), (by rw [← hRES, hE]), (by rw [← hRES, hE]), (by rw [← hRES, hE]), (by rw [← hRES, hE]), (by rw [← hRES, hE])⟩, by rw [ht]; exact hP9, va_K.moved hW.alike hK, hD9⟩⟩, hS.F ht⟩) hS.2.2 dX10_bringAcks_89
        | true =>
          have hr1 : r_46 = cf 2 := hr_46.1
          have hZ2 := ZN_tk hZ hR (j := 2) (by decide)
          have hR2 := RI_tk hR (i := 2) (by decide)
          have hP : va_P D vwCl (([(b0, cbC r0 fl nw), (fl, flC cO n fa), (r0, rdC ov (va_rf ol) r1 r2 r3 r4 r5), (r1, chC cf cl zn 0), (r2, chC cf cl zn 1), (r3, .inr (1, [va_rf (tk_fi af (cf 2)), va_rf (tk_la af (cf 2) (cl 2)), .int (tk_n (cf 2) (zn 2))])), (r4, chC cf cl zn 3), (r5, tlC cI tf)] ++ va_pl L (pf cJ kd pi bd (tk_af af (cf 2)) bo)) ++ fls cJ fa FX FV FJ n) _ := hP
          have hD : va_D A (([(b0, cbC r0 fl nw), (fl, flC cO n fa), (r0, rdC ov (va_rf ol) r1 r2 r3 r4 r5), (r1, chC cf cl zn 0), (r2, chC cf cl zn 1), (r3, .inr (1, [va_rf (tk_fi af (cf 2)), va_rf (tk_la af (cf 2) (cl 2)), .int (tk_n (cf 2) (zn 2))])), (r4, chC cf cl zn 3), (r5, tlC cI tf)] ++ va_pl L (pf cJ kd pi bd (tk_af af (cf 2)) bo)) ++ fls cJ fa FX FV FJ n) := hD
          cases ho_48 : cf 2 with
          | none =>
            have hdone : ∀ z, (xl 2).head? = some z → nw < pi 0 z := fun z hz => by rw [RI_none hR (by decide) ho_48] at hz; cases hz
            obtain rfl : r_46 = none := hr1.trans ho_48
            rw [ho_48] at hP hD hR2 hZ2
            rw [show va_up xl 2 (xl 2).tail = xl from va_up_same (by rw [RI_none hR (by decide) ho_48]; rfl)] at hR2 hZ2
            have hP : va_P D vwCl (([(b0, cbC r0 fl nw), (fl, flC cO n fa), (r0, rdC ov (va_rf ol) r1 r2 r3 r4 r5), (r1, .inr (1, [va_rf (va_up cf 2 (tk_fi af none) 0), va_rf (va_up cl 2 (tk_la af none (cl 2)) 0), .int (va_up zn 2 (tk_n none (zn 2)) 0)])), (r2, .inr (1, [va_rf (va_up cf 2 (tk_fi af none) 1), va_rf (va_up cl 2 (tk_la af none (cl 2)) 1), .int (va_up zn 2 (tk_n none (zn 2)) 1)])), (r3, .inr (1, [va_rf (va_up cf 2 (tk_fi af none) 2), va_rf (va_up cl 2 (tk_la af none (cl 2)) 2), .int (va_up zn 2 (tk_n none (zn 2)) 2)])), (r4, .inr (1, [va_rf (va_up cf 2 (tk_fi af none) 3), va_rf (va_up cl 2 (tk_la af none (cl 2)) 3), .int (va_up zn 2 (tk_n none (zn 2)) 3)])), (r5, tlC cI tf)] ++ va_pl L (pf cJ kd pi bd (tk_af af none) bo)) ++ fls cJ fa FX FV FJ n) H := hP
            have hD : va_D A (([(b0, cbC r0 fl nw), (fl, flC cO n fa), (r0, rdC ov (va_rf ol) r1 r2 r3 r4 r5), (r1, .inr (1, [va_rf (va_up cf 2 (tk_fi af none) 0), va_rf (va_up cl 2 (tk_la af none (cl 2)) 0), .int (va_up zn 2 (tk_n none (zn 2)) 0)])), (r2, .inr (1, [va_rf (va_up cf 2 (tk_fi af none) 1), va_rf (va_up cl 2 (tk_la af none (cl 2)) 1), .int (va_up zn 2 (tk_n none (zn 2)) 1)])), (r3, .inr (1, [va_rf (va_up cf 2 (tk_fi af none) 2), va_rf (va_up cl 2 (tk_la af none (cl 2)) 2), .int (va_up zn 2 (tk_n none (zn 2)) 2)])), (r4, .inr (1, [va_rf (va_up cf 2 (tk_fi af none) 3), va_rf (va_up cl 2 (tk_la af none (cl 2)) 3), .int (va_up zn 2 (tk_n none (zn 2)) 3)])), (r5, tlC cI tf)] ++ va_pl L (pf cJ kd pi bd (tk_af af none) bo)) ++ fls cJ fa FX FV FJ n) := hD
            generalize va_up cf 2 (tk_fi af none) = cf at hP hD hR2
            generalize va_up cl 2 (tk_la af none (cl 2)) = cl at hP hD hR2
            generalize va_up zn 2 (tk_n none (zn 2)) = zn at hP hD hZ2
            generalize tk_af af none = af at hP hD hR2
            generalize tk_tag tag none = tag at hR2
            have hR := hR2
            have hZ := hZ2
            refine lv_astore_nN (lv' := [(2, .null), (0, .ref b0), (1, .int lf)]) hx hb dX10_bringAcks_29 rfl hl (by decide) rfl (fun ls hl => ?_)
            refine lv_aload_nN hx hb dX10_bringAcks_30 rfl (lv_at hl 0 rfl) ?_
            refine lv_ifnonnullN hx hb dX10_bringAcks_31 ?_
            refine lv_goto (tgt := 89) hx hb dX10_bringAcks_34 (by decide) ?_
            rw [hQP]
            have hE := hE.trans (acks_stop (gg_hd2 hG hdone))
            have hTK := TK_doneA hTK hdone
            refine W.know2 (fun hk1 hk2 => ?_)
            have hg0 : gr s.heap _ (0 + c0) := ⟨hk1, hk2⟩
            rw [show b + c0 = b + (0 + c0) by omega] at hTK
            refine W.widen (k := 24010) (n := 132110) (by omega) (by omega) ?_
            have hP9 : va_P D vwCl (([(b0, cbC r0 fl nw), (fl, flC cO n fa), (r0, rdC ov (va_rf ol) r1 r2 r3 r4 r5), (r1, chC cf cl zn 0), (r2, chC cf cl zn 1), (r3, chC cf cl zn 2), (r4, chC cf cl zn 3), (r5, tlC cI tf)] ++ va_pl L (pf cJ kd pi bd af bo)) ++ fls cJ fa FX FV FJ n) _ := hP
            have hD9 : va_D A (([(b0, cbC r0 fl nw), (fl, flC cO n fa), (r0, rdC ov (va_rf ol) r1 r2 r3 r4 r5), (r1, chC cf cl zn 0), (r2, chC cf cl zn 1), (r3, chC cf cl zn 2), (r4, chC cf cl zn 3), (r5, tlC cI tf)] ++ va_pl L (pf cJ kd pi bd af bo)) ++ fls cJ fa FX FV FJ n) := hD
            exact W.vret hx hb hr (fun t ht hW => ⟨⟨(), rfl, trivial, ⟨ov, tf, ol, cf, cl, zn, xl, tag, L, kd, pi, bd, af, bo, (0 + c0), go, gq, gw, ga, FV, FJ, ⟨⟨hR, hPB, hZ, hT, by rw [ht]; exact hg0, hLK, hTK⟩, ⟨hG, hJ⟩, (by rw [← hRES, hE]), (by rw [← hRES, hE]), (by rw [← hRES, hE]), (by rw [← hRES, hE]), (by rw [← hRES, hE]), (by rw [← hRES, hE]), (by rw [← hRES, hE]), (by rw [← hRES, hE])⟩, by rw [ht]; exact hP9, va_K.moved hW.alike hK, hD9⟩⟩, hS.F ht⟩) hS.2.2 dX10_bringAcks_89
          | some z_47 =>
            obtain ⟨m_z_47, k_z_47, t_l2, e1⟩ := RI_hd hR (i := 2) (by decide) ho_48
            have t_z_47 : tk_tag tag (some z_47) z_47 = 6 := va_up_self tag z_47 6
            obtain rfl : r_46 = some z_47 := hr1.trans ho_48
            rw [ho_48] at hP hD hR2 hZ2
            have hP : va_P D vwCl (([(b0, cbC r0 fl nw), (fl, flC cO n fa), (r0, rdC ov (va_rf ol) r1 r2 r3 r4 r5), (r1, .inr (1, [va_rf (va_up cf 2 (tk_fi af (some z_47)) 0), va_rf (va_up cl 2 (tk_la af (some z_47) (cl 2)) 0), .int (va_up zn 2 (tk_n (some z_47) (zn 2)) 0)])), (r2, .inr (1, [va_rf (va_up cf 2 (tk_fi af (some z_47)) 1), va_rf (va_up cl 2 (tk_la af (some z_47) (cl 2)) 1), .int (va_up zn 2 (tk_n (some z_47) (zn 2)) 1)])), (r3, .inr (1, [va_rf (va_up cf 2 (tk_fi af (some z_47)) 2), va_rf (va_up cl 2 (tk_la af (some z_47) (cl 2)) 2), .int (va_up zn 2 (tk_n (some z_47) (zn 2)) 2)])), (r4, .inr (1, [va_rf (va_up cf 2 (tk_fi af (some z_47)) 3), va_rf (va_up cl 2 (tk_la af (some z_47) (cl 2)) 3), .int (va_up zn 2 (tk_n (some z_47) (zn 2)) 3)])), (r5, tlC cI tf)] ++ va_pl L (pf cJ kd pi bd (tk_af af (some z_47)) bo)) ++ fls cJ fa FX FV FJ n) H := hP
            have hD : va_D A (([(b0, cbC r0 fl nw), (fl, flC cO n fa), (r0, rdC ov (va_rf ol) r1 r2 r3 r4 r5), (r1, .inr (1, [va_rf (va_up cf 2 (tk_fi af (some z_47)) 0), va_rf (va_up cl 2 (tk_la af (some z_47) (cl 2)) 0), .int (va_up zn 2 (tk_n (some z_47) (zn 2)) 0)])), (r2, .inr (1, [va_rf (va_up cf 2 (tk_fi af (some z_47)) 1), va_rf (va_up cl 2 (tk_la af (some z_47) (cl 2)) 1), .int (va_up zn 2 (tk_n (some z_47) (zn 2)) 1)])), (r3, .inr (1, [va_rf (va_up cf 2 (tk_fi af (some z_47)) 2), va_rf (va_up cl 2 (tk_la af (some z_47) (cl 2)) 2), .int (va_up zn 2 (tk_n (some z_47) (zn 2)) 2)])), (r4, .inr (1, [va_rf (va_up cf 2 (tk_fi af (some z_47)) 3), va_rf (va_up cl 2 (tk_la af (some z_47) (cl 2)) 3), .int (va_up zn 2 (tk_n (some z_47) (zn 2)) 3)])), (r5, tlC cI tf)] ++ va_pl L (pf cJ kd pi bd (tk_af af (some z_47)) bo)) ++ fls cJ fa FX FV FJ n) := hD
            generalize va_up cf 2 (tk_fi af (some z_47)) = cf at hP hD hR2
            generalize va_up cl 2 (tk_la af (some z_47) (cl 2)) = cl at hP hD hR2
            generalize va_up zn 2 (tk_n (some z_47) (zn 2)) = zn at hP hD hZ2
            generalize tk_af af (some z_47) = af at hP hD hR2
            generalize tk_tag tag (some z_47) = tag at hR2 t_z_47
            have hle : (ca pi bd bo z_47).1 ≤ nw := by have h5 := hr_46.2.2 rfl; rw [ho_48] at h5; exact h5
            obtain ⟨hG, hgh⟩ := GG_tks2 hG e1
            rw [hgh] at hE
            generalize ga.tail = ga at hG hE
            rw [xc_acks] at hE
            have hE := hE.trans (if_pos hle)
            generalize hxa : va_up xl 2 (xl 2).tail = xl at hR2 hZ2 hG
            have hR := hR2
            have hZ := hZ2
            have hQ : QQ L kd tag xl pi ol L kd tag xl pi ol [] [] 0 0 := QQ_rf
            refine lv_astore_n (lv' := [(2, .ref z_47), (0, .ref b0), (1, .int lf)]) hx hb dX10_bringAcks_29 rfl hl (by decide) rfl (fun ls hl => ?_)
            refine lv_aload_n hx hb dX10_bringAcks_30 rfl (lv_at hl 0 rfl) ?_
            refine lv_ifnonnull (tgt := 37) hx hb dX10_bringAcks_31 (by decide) ?_
            refine lv_aload_n hx hb dX10_bringAcks_37 rfl (lv_at hl 1 rfl) ?_
            refine lv_aload_n hx hb dX10_bringAcks_38 rfl (lv_at hl 0 rfl) ?_
            obtain ⟨k_49, hk_49⟩ := va_pl_get (X := [(b0, cbC r0 fl nw), (fl, flC cO n fa), (r0, rdC ov (va_rf ol) r1 r2 r3 r4 r5), (r1, chC cf cl zn 0), (r2, chC cf cl zn 1), (r3, chC cf cl zn 2), (r4, chC cf cl zn 3), (r5, tlC cI tf)]) (f := pf cJ kd pi bd af bo) m_z_47
            refine va_getN (D := D) (ci := 5) (v := .int (pi 1 z_47)) (C := RX5) (T := TX5) (N := 7) hx hb ha inlX5 hown hK hP k_49 ((fr_get hk_49).trans (congrArg (fun z => some (z_47, z)) (pf_p k_z_47))) rfl 1 (by decide) (va_Nw.use rfl (hN.f RX10 118 "CongestionBench$Parcel" "flow" "I" "CongestionBench" (by decide +kernel))) (fun _ h9 => h9) rfl dX10_bringAcks_39 ?_
            refine lv_topi (fun x_50 ex_50 => ?_)
            have hE := bd_at ex_50 hE
            have hp0 := perm_idx (X := [(b0, cbC r0 fl nw), (fl, flC cO n fa), (r0, rdC ov (va_rf ol) r1 r2 r3 r4 r5), (r1, chC cf cl zn 0), (r2, chC cf cl zn 1), (r3, chC cf cl zn 2), (r4, chC cf cl zn 3), (r5, tlC cI tf)]) (Y := [(b0, cbC r0 fl nw), (fl, flC cO n fa)] ++ [(r0, rdC ov (va_rf ol) r1 r2 r3 r4 r5), (r1, chC cf cl zn 0), (r2, chC cf cl zn 1), (r3, chC cf cl zn 2), (r4, chC cf cl zn 3), (r5, tlC cI tf)]) (N := 8) [0, 1, 2, 3, 4, 5, 6, 7] rfl rfl (by decide)
            have hPq := hP.perm (pm_Q (cx := [(b0, cbC r0 fl nw), (fl, flC cO n fa)]) (xr := [(r0, rdC ov (va_rf ol) r1 r2 r3 r4 r5), (r1, chC cf cl zn 0), (r2, chC cf cl zn 1), (r3, chC cf cl zn 2), (r4, chC cf cl zn 3), (r5, tlC cI tf)]) (pl := va_pl L (pf cJ kd pi bd af bo)) (R := fls cJ fa FX FV FJ n) hp0)
            have hDq := hD.perm (pm_Q (cx := [(b0, cbC r0 fl nw), (fl, flC cO n fa)]) (xr := [(r0, rdC ov (va_rf ol) r1 r2 r3 r4 r5), (r1, chC cf cl zn 0), (r2, chC cf cl zn 1), (r3, chC cf cl zn 2), (r4, chC cf cl zn 3), (r5, tlC cI tf)]) (pl := va_pl L (pf cJ kd pi bd af bo)) (R := fls cJ fa FX FV FJ n) hp0)
            have hPc := hPq.left
            have hDc := hDq.left
            have hFc := va_freeR hDq hS hA
            refine va_calli (va_runV (As := [.int x_50]) (rest := []) ⟨hx, hb, hml, hown, ha⟩ (c_isFlow l D cI cJ cZ cO _ b0 r0 fl nw n (fun i => some (fa i 0)) x_50) (cwV 1 ha (gaV kl_X10_33 km_X10_isFlow ks_X10_isFlow kz_X10 kd_X10_isFlow) rfl rfl rfl (by decide +kernel) ⟨Nat.le_of_ble_eq_true rfl, Nat.le_of_ble_eq_true rfl⟩) ⟨pw_blind, va_recv hK hPc (ci := 10) (q0 := 0) rfl rfl, fun U hU hW => ⟨rfl, pw_start hU hW hPc hK hDc hN⟩⟩ rfl rfl hl.1 rfl (lv_room (Nat.le_of_ble_eq_true rfl)) dX10_bringAcks_42 ⟨show 2 * (0 + c0) + 0 ≤ 24010 by omega, show 11 * (0 + c0) + 0 ≤ 132110 by omega⟩) hS (fun q _ h => hFc q h) hFc (fun r_51 u t H1 locs ht hvm hw hB hz1 hk1 hS => ?_)
            obtain ⟨hP1, hK1, hD1⟩ := hB
            rw [ht] at hP1
            obtain ⟨hP, hD⟩ := va_joinR (w1 := [(b0, cbC r0 fl nw), (fl, flC cO n fa)]) hPq hDq hk1 hFc hP1 hD1
            have hP := hP.perm (pm_Qb (xr := [(r0, rdC ov (va_rf ol) r1 r2 r3 r4 r5), (r1, chC cf cl zn 0), (r2, chC cf cl zn 1), (r3, chC cf cl zn 2), (r4, chC cf cl zn 3), (r5, tlC cI tf)]) (w1 := [(b0, cbC r0 fl nw), (fl, flC cO n fa)]) (pl := va_pl L (pf cJ kd pi bd af bo)) (R := fls cJ fa FX FV FJ n))
            have hD := hD.perm (pm_Qb (xr := [(r0, rdC ov (va_rf ol) r1 r2 r3 r4 r5), (r1, chC cf cl zn 0), (r2, chC cf cl zn 1), (r3, chC cf cl zn 2), (r4, chC cf cl zn 3), (r5, tlC cI tf)]) (w1 := [(b0, cbC r0 fl nw), (fl, flC cO n fa)]) (pl := va_pl L (pf cJ kd pi bd af bo)) (R := fls cJ fa FX FV FJ n))
            clear hp0 hPq hDq hPc hDc hP1 hD1
            generalize H1 = H at hP hS ⊢
            have hP : va_P D vwCl (([(r0, rdC ov (va_rf ol) r1 r2 r3 r4 r5), (r1, chC cf cl zn 0), (r2, chC cf cl zn 1), (r3, chC cf cl zn 2), (r4, chC cf cl zn 3), (r5, tlC cI tf), (b0, cbC r0 fl nw), (fl, flC cO n fa)] ++ va_pl L (pf cJ kd pi bd af bo)) ++ fls cJ fa FX FV FJ n) H := hP
            have hD : va_D A (([(r0, rdC ov (va_rf ol) r1 r2 r3 r4 r5), (r1, chC cf cl zn 0), (r2, chC cf cl zn 1), (r3, chC cf cl zn 2), (r4, chC cf cl zn 3), (r5, tlC cI tf), (b0, cbC r0 fl nw), (fl, flC cO n fa)] ++ va_pl L (pf cJ kd pi bd af bo)) ++ fls cJ fa FX FV FJ n) := hD
            have hpo := pm_X (pl := va_pl L (pf cJ kd pi bd af bo)) (R := fls cJ fa FX FV FJ n) (perm_idx (X := [(r0, rdC ov (va_rf ol) r1 r2 r3 r4 r5), (r1, chC cf cl zn 0), (r2, chC cf cl zn 1), (r3, chC cf cl zn 2), (r4, chC cf cl zn 3), (r5, tlC cI tf), (b0, cbC r0 fl nw), (fl, flC cO n fa)]) (Y := [(b0, cbC r0 fl nw), (fl, flC cO n fa), (r0, rdC ov (va_rf ol) r1 r2 r3 r4 r5), (r1, chC cf cl zn 0), (r2, chC cf cl zn 1), (r3, chC cf cl zn 2), (r4, chC cf cl zn 3), (r5, tlC cI tf)]) (N := 8) [6, 7, 0, 1, 2, 3, 4, 5] rfl rfl (by decide))
            have hP := hP.perm hpo
            have hD := hD.perm hpo
            clear hpo
            have hP : va_P D vwCl (([(b0, cbC r0 fl nw), (fl, flC cO n fa), (r0, rdC ov (va_rf ol) r1 r2 r3 r4 r5), (r1, chC cf cl zn 0), (r2, chC cf cl zn 1), (r3, chC cf cl zn 2), (r4, chC cf cl zn 3), (r5, tlC cI tf)] ++ va_pl L (pf cJ kd pi bd af bo)) ++ fls cJ fa FX FV FJ n) H := hP
            have hD : va_D A (([(b0, cbC r0 fl nw), (fl, flC cO n fa), (r0, rdC ov (va_rf ol) r1 r2 r3 r4 r5), (r1, chC cf cl zn 0), (r2, chC cf cl zn 1), (r3, chC cf cl zn 2), (r4, chC cf cl zn 3), (r5, tlC cI tf)] ++ va_pl L (pf cJ kd pi bd af bo)) ++ fls cJ fa FX FV FJ n) := hD
            refine W.widen (k := 2 * (0 + c0)) (n := 11 * (0 + c0)) (Nat.le_refl _) (Nat.le_refl _) ?_
            have hr_51 := hw
            have hE := bd_at hr_51 hE
            refine lv_if_eq (tgt := 72) hx hb dX10_bringAcks_45 (by decide) (fun c_52 => ?_) (fun c_52 => ?_)
            · have hE := hE.trans (if_pos c_52)
              refine lv_aload_n hx hb dX10_bringAcks_72 rfl (lv_at hl 1 rfl) ?_
              refine va_get (D := D) (ci := 10) (v := .ref r0) (C := RX10) (T := TX10) (N := 3) hx hb ha inlX10 hown hK hP 0 rfl rfl 0 (by decide) (ha _ kf_X10_10) (fun _ h9 => h9) rfl dX10_bringAcks_73 ?_
              refine va_getN (D := D) (ci := 7) (v := .ref r4) (C := RX7) (T := TX7) (N := 15) hx hb ha inlX7 hown hK hP 2 rfl rfl 8 (by decide) (va_Nw.use rfl (hN.f RX10 127 "CongestionBench$Road" "spare" "LCongestionBench$Chain;" "CongestionBench" (by decide +kernel))) (fun _ h9 => h9) rfl dX10_bringAcks_76 ?_
              refine lv_aload_n hx hb dX10_bringAcks_79 rfl (lv_at hl 0 rfl) ?_
              have hp0 := perm_idx (X := [(b0, cbC r0 fl nw), (fl, flC cO n fa), (r0, rdC ov (va_rf ol) r1 r2 r3 r4 r5), (r1, chC cf cl zn 0), (r2, chC cf cl zn 1), (r3, chC cf cl zn 2), (r4, chC cf cl zn 3), (r5, tlC cI tf)]) (Y := [(r4, chC cf cl zn 3)] ++ [(b0, cbC r0 fl nw), (fl, flC cO n fa), (r0, rdC ov (va_rf ol) r1 r2 r3 r4 r5), (r1, chC cf cl zn 0), (r2, chC cf cl zn 1), (r3, chC cf cl zn 2), (r5, tlC cI tf)]) (N := 8) [6, 0, 1, 2, 3, 4, 5, 7] rfl rfl (by decide)
              have hPq := hP.perm (pm_P (cx := [(r4, chC cf cl zn 3)]) (xr := [(b0, cbC r0 fl nw), (fl, flC cO n fa), (r0, rdC ov (va_rf ol) r1 r2 r3 r4 r5), (r1, chC cf cl zn 0), (r2, chC cf cl zn 1), (r3, chC cf cl zn 2), (r5, tlC cI tf)]) (pl := va_pl L (pf cJ kd pi bd af bo)) (R := fls cJ fa FX FV FJ n) hp0)
              have hDq := hD.perm (pm_P (cx := [(r4, chC cf cl zn 3)]) (xr := [(b0, cbC r0 fl nw), (fl, flC cO n fa), (r0, rdC ov (va_rf ol) r1 r2 r3 r4 r5), (r1, chC cf cl zn 0), (r2, chC cf cl zn 1), (r3, chC cf cl zn 2), (r5, tlC cI tf)]) (pl := va_pl L (pf cJ kd pi bd af bo)) (R := fls cJ fa FX FV FJ n) hp0)
              have hPc := hPq.left
              have hDc := hDq.left
              have hFc := va_freeR hDq hS hA
              refine va_callv (va_runV (As := [.ref z_47]) (rest := []) ⟨hx, hb, hml, hown, ha⟩ (s_append l D cI cJ cZ cO _ r4 z_47 L kd pi bd af bo (cf 3) (cl 3) (zn 3) m_z_47 k_z_47 (RI_la hR (by decide))) (cwV 1 ha (gaV kl_X10_130 km_X1_append ks_X1_append kz_X1 kd_X1_append) rfl rfl rfl (by decide +kernel) ⟨Nat.le_of_ble_eq_true rfl, Nat.le_of_ble_eq_true rfl⟩) ⟨pw_blind, va_recv hK hPc (ci := 1) (q0 := 0) rfl rfl, fun U hU hW => ⟨rfl, pw_start hU hW hPc hK hDc hN⟩⟩ rfl rfl hl.1 rfl (lv_room (Nat.le_of_ble_eq_true rfl)) dX10_bringAcks_80 ⟨show 2 * (0 + c0) + 0 ≤ 24010 by omega, show 11 * (0 + c0) + 0 ≤ 132110 by omega⟩) hS (fun q _ h => hFc q h) hFc (fun u t H1 locs ht hvm hw hB hz1 hk1 hS => ?_)
              obtain ⟨hP1, hK1, hD1⟩ := hB
              rw [ht] at hP1
              obtain ⟨hP, hD⟩ := va_joinR (w1 := ([(r4, .inr (1, [va_rf (ap_fi (cl 3) (cf 3) z_47), va_rf (some z_47), .int ((zn 3) + 1)]))] ++ va_pl L (pf cJ kd pi bd (ap_af af (cl 3) z_47) bo))) hPq hDq hk1 hFc hP1 hD1
              have hP := hP.perm (pm_Pb (xr := [(b0, cbC r0 fl nw), (fl, flC cO n fa), (r0, rdC ov (va_rf ol) r1 r2 r3 r4 r5), (r1, chC cf cl zn 0), (r2, chC cf cl zn 1), (r3, chC cf cl zn 2), (r5, tlC cI tf)]) (rx := [(r4, .inr (1, [va_rf (ap_fi (cl 3) (cf 3) z_47), va_rf (some z_47), .int ((zn 3) + 1)]))]) (pl := va_pl L (pf cJ kd pi bd (ap_af af (cl 3) z_47) bo)) (R := fls cJ fa FX FV FJ n))
              have hD := hD.perm (pm_Pb (xr := [(b0, cbC r0 fl nw), (fl, flC cO n fa), (r0, rdC ov (va_rf ol) r1 r2 r3 r4 r5), (r1, chC cf cl zn 0), (r2, chC cf cl zn 1), (r3, chC cf cl zn 2), (r5, tlC cI tf)]) (rx := [(r4, .inr (1, [va_rf (ap_fi (cl 3) (cf 3) z_47), va_rf (some z_47), .int ((zn 3) + 1)]))]) (pl := va_pl L (pf cJ kd pi bd (ap_af af (cl 3) z_47) bo)) (R := fls cJ fa FX FV FJ n))
              clear hp0 hPq hDq hPc hDc hP1 hD1
              generalize H1 = H at hP hS ⊢
              have hP : va_P D vwCl (([(b0, cbC r0 fl nw), (fl, flC cO n fa), (r0, rdC ov (va_rf ol) r1 r2 r3 r4 r5), (r1, chC cf cl zn 0), (r2, chC cf cl zn 1), (r3, chC cf cl zn 2), (r5, tlC cI tf), (r4, .inr (1, [va_rf (ap_fi (cl 3) (cf 3) z_47), va_rf (some z_47), .int ((zn 3) + 1)]))] ++ va_pl L (pf cJ kd pi bd (ap_af af (cl 3) z_47) bo)) ++ fls cJ fa FX FV FJ n) H := hP
              have hD : va_D A (([(b0, cbC r0 fl nw), (fl, flC cO n fa), (r0, rdC ov (va_rf ol) r1 r2 r3 r4 r5), (r1, chC cf cl zn 0), (r2, chC cf cl zn 1), (r3, chC cf cl zn 2), (r5, tlC cI tf), (r4, .inr (1, [va_rf (ap_fi (cl 3) (cf 3) z_47), va_rf (some z_47), .int ((zn 3) + 1)]))] ++ va_pl L (pf cJ kd pi bd (ap_af af (cl 3) z_47) bo)) ++ fls cJ fa FX FV FJ n) := hD
              have hpo := pm_X (pl := va_pl L (pf cJ kd pi bd (ap_af af (cl 3) z_47) bo)) (R := fls cJ fa FX FV FJ n) (perm_idx (X := [(b0, cbC r0 fl nw), (fl, flC cO n fa), (r0, rdC ov (va_rf ol) r1 r2 r3 r4 r5), (r1, chC cf cl zn 0), (r2, chC cf cl zn 1), (r3, chC cf cl zn 2), (r5, tlC cI tf), (r4, .inr (1, [va_rf (ap_fi (cl 3) (cf 3) z_47), va_rf (some z_47), .int ((zn 3) + 1)]))]) (Y := [(b0, cbC r0 fl nw), (fl, flC cO n fa), (r0, rdC ov (va_rf ol) r1 r2 r3 r4 r5), (r1, chC cf cl zn 0), (r2, chC cf cl zn 1), (r3, chC cf cl zn 2), (r4, .inr (1, [va_rf (ap_fi (cl 3) (cf 3) z_47), va_rf (some z_47), .int ((zn 3) + 1)])), (r5, tlC cI tf)]) (N := 8) [0, 1, 2, 3, 4, 5, 7, 6] rfl rfl (by decide))
              have hP := hP.perm hpo
              have hD := hD.perm hpo
              clear hpo
              have hP : va_P D vwCl (([(b0, cbC r0 fl nw), (fl, flC cO n fa), (r0, rdC ov (va_rf ol) r1 r2 r3 r4 r5), (r1, chC cf cl zn 0), (r2, chC cf cl zn 1), (r3, chC cf cl zn 2), (r4, .inr (1, [va_rf (ap_fi (cl 3) (cf 3) z_47), va_rf (some z_47), .int ((zn 3) + 1)])), (r5, tlC cI tf)] ++ va_pl L (pf cJ kd pi bd (ap_af af (cl 3) z_47) bo)) ++ fls cJ fa FX FV FJ n) H := hP
              have hD : va_D A (([(b0, cbC r0 fl nw), (fl, flC cO n fa), (r0, rdC ov (va_rf ol) r1 r2 r3 r4 r5), (r1, chC cf cl zn 0), (r2, chC cf cl zn 1), (r3, chC cf cl zn 2), (r4, .inr (1, [va_rf (ap_fi (cl 3) (cf 3) z_47), va_rf (some z_47), .int ((zn 3) + 1)])), (r5, tlC cI tf)] ++ va_pl L (pf cJ kd pi bd (ap_af af (cl 3) z_47) bo)) ++ fls cJ fa FX FV FJ n) := hD
              refine W.widen (k := 2 * (0 + c0)) (n := 11 * (0 + c0)) (Nat.le_refl _) (Nat.le_refl _) ?_
              obtain ⟨hTK, hln⟩ := TK_ack hTK e1 hxa hQ hc (by decide)
              have hln : (va_up xl 3 (xl 3 ++ [z_47]) 2).length = t_l2.length := by rw [va_up_ne _ _ (by decide)]; exact hln
              have hZ := ZN_app (q := z_47) hZ (j := 3) (by decide)
              have hR := RI_append hR (i := 3) (by decide) m_z_47 k_z_47 t_z_47
              generalize (ap_af af (cl 3) z_47) = af at hP hD hR
              have hP : va_P D vwCl (([(b0, cbC r0 fl nw), (fl, flC cO n fa), (r0, rdC ov (va_rf ol) r1 r2 r3 r4 r5), (r1, .inr (1, [va_rf ((va_up cf 3 (ap_fi (cl 3) (cf 3) z_47)) 0), va_rf ((va_up cl 3 (some z_47)) 0), .int ((va_up zn 3 (zn 3 + 1)) 0)])), (r2, .inr (1, [va_rf ((va_up cf 3 (ap_fi (cl 3) (cf 3) z_47)) 1), va_rf ((va_up cl 3 (some z_47)) 1), .int ((va_up zn 3 (zn 3 + 1)) 1)])), (r3, .inr (1, [va_rf ((va_up cf 3 (ap_fi (cl 3) (cf 3) z_47)) 2), va_rf ((va_up cl 3 (some z_47)) 2), .int ((va_up zn 3 (zn 3 + 1)) 2)])), (r4, .inr (1, [va_rf ((va_up cf 3 (ap_fi (cl 3) (cf 3) z_47)) 3), va_rf ((va_up cl 3 (some z_47)) 3), .int ((va_up zn 3 (zn 3 + 1)) 3)])), (r5, tlC cI tf)] ++ va_pl L (pf cJ kd pi bd af bo)) ++ fls cJ fa FX FV FJ n) H := hP
              have hD : va_D A (([(b0, cbC r0 fl nw), (fl, flC cO n fa), (r0, rdC ov (va_rf ol) r1 r2 r3 r4 r5), (r1, .inr (1, [va_rf ((va_up cf 3 (ap_fi (cl 3) (cf 3) z_47)) 0), va_rf ((va_up cl 3 (some z_47)) 0), .int ((va_up zn 3 (zn 3 + 1)) 0)])), (r2, .inr (1, [va_rf ((va_up cf 3 (ap_fi (cl 3) (cf 3) z_47)) 1), va_rf ((va_up cl 3 (some z_47)) 1), .int ((va_up zn 3 (zn 3 + 1)) 1)])), (r3, .inr (1, [va_rf ((va_up cf 3 (ap_fi (cl 3) (cf 3) z_47)) 2), va_rf ((va_up cl 3 (some z_47)) 2), .int ((va_up zn 3 (zn 3 + 1)) 2)])), (r4, .inr (1, [va_rf ((va_up cf 3 (ap_fi (cl 3) (cf 3) z_47)) 3), va_rf ((va_up cl 3 (some z_47)) 3), .int ((va_up zn 3 (zn 3 + 1)) 3)])), (r5, tlC cI tf)] ++ va_pl L (pf cJ kd pi bd af bo)) ++ fls cJ fa FX FV FJ n) := hD
              generalize va_up cf 3 (ap_fi (cl 3) (cf 3) z_47) = cf at hP hD hR
              generalize va_up cl 3 (some z_47) = cl at hP hD hR
              generalize va_up zn 3 (zn 3 + 1) = zn at hP hD hZ
              have hG := GG_x3 (l := xl 3 ++ [z_47]) hG
              generalize va_up xl 3 (xl 3 ++ [z_47]) = xl at hR hZ hTK hln hG
              generalize va_up tag z_47 3 = tag at hR
              obtain ⟨x_54, ex_54⟩ : ∃ y : Int32, y = lf + (-1) := ⟨_, rfl⟩
              refine lv_iinc (v := x_54) (lv' := [(1, .int x_54), (2, .ref z_47), (0, .ref b0)]) hx hb dX10_bringAcks_83 hl (k := 2) rfl (by rw [ex_54]; rfl) (by decide) rfl (fun ls hl => ?_)
              refine lv_goto (tgt := 11) hx hb dX10_bringAcks_86 (by decide) ?_
              have hx9 : x_54 = nI (xl 2).length := by rw [ex_54, hlf, e1, List.length_cons, hln, ← Int32.sub_eq_add_neg, nI_pred]
              have hm9 : (xl 2).length < k := by rw [e1, List.length_cons] at hm; omega
              refine W.know2 (fun hka hkb => ?_)
              have hg0 : gr s.heap _ (0 + c0) := ⟨hka, hkb⟩
              exact ih c0 x_54 ov tf ol cf cl zn xl tag L kd pi bd af bo go gq gw ga FV FJ _ _ hP hD hS hR hPB hZ hG hJ hT hLK hTK hg0 hx9 _ (lv_sub hl [2, 0] rfl) hE hm9
            · have hE := hE.trans (if_neg c_52)
              have hq0 : (xl 0).length ≤ 100 := by rw [← hxa, va_up_ne _ _ (by decide)]; exact (TK_b hTK).2.2
              obtain ⟨j, hj, hxj⟩ := isf_j hn (by rw [← hr_51]; exact c_52)
              refine lv_aload_n hx hb dX10_bringAcks_48 rfl (lv_at hl 1 rfl) ?_
              refine va_get (D := D) (ci := 10) (v := .ref fl) (C := RX10) (T := TX10) (N := 3) hx hb ha inlX10 hown hK hP 0 rfl rfl 1 (by decide) (ha _ kf_X10_18) (fun _ h9 => h9) rfl dX10_bringAcks_49 ?_
              refine lv_aload_n hx hb dX10_bringAcks_52 rfl (lv_at hl 0 rfl) ?_
              obtain ⟨k_55, hk_55⟩ := va_pl_get (X := [(b0, cbC r0 fl nw), (fl, flC cO n fa), (r0, rdC ov (va_rf ol) r1 r2 r3 r4 r5), (r1, chC cf cl zn 0), (r2, chC cf cl zn 1), (r3, chC cf cl zn 2), (r4, chC cf cl zn 3), (r5, tlC cI tf)]) (f := pf cJ kd pi bd af bo) m_z_47
              refine va_getN (D := D) (ci := 5) (v := .int (pi 1 z_47)) (C := RX5) (T := TX5) (N := 7) hx hb ha inlX5 hown hK hP k_55 ((fr_get hk_55).trans (congrArg (fun z => some (z_47, z)) (pf_p k_z_47))) rfl 1 (by decide) (va_Nw.use rfl (hN.f RX10 118 "CongestionBench$Parcel" "flow" "I" "CongestionBench" (by decide +kernel))) (fun _ h9 => h9) rfl dX10_bringAcks_53 ?_
              refine lv_topi (fun x_56 ex_56 => ?_)
              have hE := bd_at ex_56 hE
              have hxj2 : x_56 = nI j := ex_56.trans (ex_50.symm.trans hxj)
              subst hxj2
              rw [nI_clamp (show j < 2 ^ 31 by omega)] at hE
              refine va_aldq hx hb hK hP 1 3 rfl rfl (vp_in_nI hj (by omega)) dX10_bringAcks_56 ?_
              rw [nI_clamp (show j < 2 ^ 31 by omega)]
              refine W.eq (g2 := F0 m 57 ls [.ref (fa j 0)]) rfl ?_
              obtain ⟨FA_57, FB_58, hfe_59, hfu_60⟩ := fls_at (cJ := cJ) (fa := fa) (FX := FX) (FV := FV) (FJ := FJ) hj
              have hpo := pm_open (X := [(b0, cbC r0 fl nw), (fl, flC cO n fa), (r0, rdC ov (va_rf ol) r1 r2 r3 r4 r5), (r1, chC cf cl zn 0), (r2, chC cf cl zn 1), (r3, chC cf cl zn 2), (r4, chC cf cl zn 3), (r5, tlC cI tf)]) (c := fcs cJ fa FX FV FJ j) (pl := va_pl L (pf cJ kd pi bd af bo)) hfe_59
              have hP := hP.perm hpo
              have hD := hD.perm hpo
              clear hpo
              have hP : va_P D vwCl (([(b0, cbC r0 fl nw), (fl, flC cO n fa), (r0, rdC ov (va_rf ol) r1 r2 r3 r4 r5), (r1, chC cf cl zn 0), (r2, chC cf cl zn 1), (r3, chC cf cl zn 2), (r4, chC cf cl zn 3), (r5, tlC cI tf), ((fa j 0), fwC (fa j 1) (fa j 9)), ((fa j 1), snC (FX j 0) (FX j 1) (FX j 2) (FV j 0) (fa j 2) (fa j 3) (fa j 8)), ((fa j 2), tmC (FV j 1)), ((fa j 3), boC (fa j 4) (fa j 6) (FV j 2)), ((fa j 4), mkC (fa j 5)), ((fa j 5), .inl (cJ, 4, .inr (.inl (FJ j 0)))), ((fa j 6), mkC (fa j 7)), ((fa j 7), .inl (cJ, 4, .inr (.inl (FJ j 1)))), ((fa j 8), cuC (FV j 3)), ((fa j 9), rcC (FX j 0) (FV j 4) (FX j 3) (fa j 10)), ((fa j 10), mkC (fa j 11)), ((fa j 11), .inl (cJ, 4, .inr (.inl (FJ j 2))))] ++ va_pl L (pf cJ kd pi bd af bo)) ++ (FA_57 ++ FB_58)) H := hP
              have hD : va_D A (([(b0, cbC r0 fl nw), (fl, flC cO n fa), (r0, rdC ov (va_rf ol) r1 r2 r3 r4 r5), (r1, chC cf cl zn 0), (r2, chC cf cl zn 1), (r3, chC cf cl zn 2), (r4, chC cf cl zn 3), (r5, tlC cI tf), ((fa j 0), fwC (fa j 1) (fa j 9)), ((fa j 1), snC (FX j 0) (FX j 1) (FX j 2) (FV j 0) (fa j 2) (fa j 3) (fa j 8)), ((fa j 2), tmC (FV j 1)), ((fa j 3), boC (fa j 4) (fa j 6) (FV j 2)), ((fa j 4), mkC (fa j 5)), ((fa j 5), .inl (cJ, 4, .inr (.inl (FJ j 0)))), ((fa j 6), mkC (fa j 7)), ((fa j 7), .inl (cJ, 4, .inr (.inl (FJ j 1)))), ((fa j 8), cuC (FV j 3)), ((fa j 9), rcC (FX j 0) (FV j 4) (FX j 3) (fa j 10)), ((fa j 10), mkC (fa j 11)), ((fa j 11), .inl (cJ, 4, .inr (.inl (FJ j 2))))] ++ va_pl L (pf cJ kd pi bd af bo)) ++ (FA_57 ++ FB_58)) := hD
              generalize hv0 : FV j 0 = sv at hP hD hE
              generalize hv1 : FV j 1 = tv at hP hD hE
              generalize hv2 : FV j 2 = bv at hP hD hE
              generalize hv3 : FV j 3 = cv at hP hD hE
              generalize hv4 : FV j 4 = rv at hP hD hE
              generalize hj0 : FJ j 0 = f at hP hD hE
              generalize hj1 : FJ j 1 = g at hP hD hE
              generalize hj2 : FJ j 2 = kf at hP hD hE
              refine va_getN (D := D) (ci := 3) (v := .ref (fa j 1)) (C := RX3) (T := TX3) (N := 2) hx hb ha inlX3 hown hK hP 8 rfl rfl 0 (by decide) (va_Nw.use rfl (hN.f RX10 38 "CongestionBench$Flow" "sender" "LCongestionBench$Sender;" "CongestionBench" (by decide +kernel))) (fun _ h9 => h9) rfl dX10_bringAcks_57 ?_
              refine lv_aload_n hx hb dX10_bringAcks_60 rfl (lv_at hl 0 rfl) ?_
              refine lv_aload_n hx hb dX10_bringAcks_61 rfl (lv_at hl 1 rfl) ?_
              refine va_get (D := D) (ci := 10) (v := .ref r0) (C := RX10) (T := TX10) (N := 3) hx hb ha inlX10 hown hK hP 0 rfl rfl 0 (by decide) (ha _ kf_X10_10) (fun _ h9 => h9) rfl dX10_bringAcks_62 ?_
              refine lv_aload_n hx hb dX10_bringAcks_65 rfl (lv_at hl 1 rfl) ?_
              refine va_get (D := D) (ci := 10) (v := .int nw) (C := RX10) (T := TX10) (N := 3) hx hb ha inlX10 hown hK hP 0 rfl rfl 2 (by decide) (ha _ kf_X10_60) (fun _ h9 => h9) rfl dX10_bringAcks_66 ?_
              have hp0 := perm_idx (X := [(b0, cbC r0 fl nw), (fl, flC cO n fa), (r0, rdC ov (va_rf ol) r1 r2 r3 r4 r5), (r1, chC cf cl zn 0), (r2, chC cf cl zn 1), (r3, chC cf cl zn 2), (r4, chC cf cl zn 3), (r5, tlC cI tf), ((fa j 0), fwC (fa j 1) (fa j 9)), ((fa j 1), snC (FX j 0) (FX j 1) (FX j 2) sv (fa j 2) (fa j 3) (fa j 8)), ((fa j 2), tmC tv), ((fa j 3), boC (fa j 4) (fa j 6) bv), ((fa j 4), mkC (fa j 5)), ((fa j 5), .inl (cJ, 4, .inr (.inl f))), ((fa j 6), mkC (fa j 7)), ((fa j 7), .inl (cJ, 4, .inr (.inl g))), ((fa j 8), cuC cv), ((fa j 9), rcC (FX j 0) rv (FX j 3) (fa j 10)), ((fa j 10), mkC (fa j 11)), ((fa j 11), .inl (cJ, 4, .inr (.inl kf)))]) (Y := [(r0, rdC ov (va_rf ol) r1 r2 r3 r4 r5), (r1, chC cf cl zn 0), (r2, chC cf cl zn 1), (r3, chC cf cl zn 2), (r4, chC cf cl zn 3), (r5, tlC cI tf), ((fa j 1), snC (FX j 0) (FX j 1) (FX j 2) sv (fa j 2) (fa j 3) (fa j 8)), ((fa j 2), tmC tv), ((fa j 3), boC (fa j 4) (fa j 6) bv), ((fa j 4), mkC (fa j 5)), ((fa j 5), .inl (cJ, 4, .inr (.inl f))), ((fa j 6), mkC (fa j 7)), ((fa j 7), .inl (cJ, 4, .inr (.inl g))), ((fa j 8), cuC cv)] ++ [(b0, cbC r0 fl nw), (fl, flC cO n fa), ((fa j 0), fwC (fa j 1) (fa j 9)), ((fa j 9), rcC (FX j 0) rv (FX j 3) (fa j 10)), ((fa j 10), mkC (fa j 11)), ((fa j 11), .inl (cJ, 4, .inr (.inl kf)))]) (N := 20) [2, 3, 4, 5, 6, 7, 9, 10, 11, 12, 13, 14, 15, 16, 0, 1, 8, 17, 18, 19] rfl rfl (by decide)
              have hPq := hP.perm (pm_P (cx := [(r0, rdC ov (va_rf ol) r1 r2 r3 r4 r5), (r1, chC cf cl zn 0), (r2, chC cf cl zn 1), (r3, chC cf cl zn 2), (r4, chC cf cl zn 3), (r5, tlC cI tf), ((fa j 1), snC (FX j 0) (FX j 1) (FX j 2) sv (fa j 2) (fa j 3) (fa j 8)), ((fa j 2), tmC tv), ((fa j 3), boC (fa j 4) (fa j 6) bv), ((fa j 4), mkC (fa j 5)), ((fa j 5), .inl (cJ, 4, .inr (.inl f))), ((fa j 6), mkC (fa j 7)), ((fa j 7), .inl (cJ, 4, .inr (.inl g))), ((fa j 8), cuC cv)]) (xr := [(b0, cbC r0 fl nw), (fl, flC cO n fa), ((fa j 0), fwC (fa j 1) (fa j 9)), ((fa j 9), rcC (FX j 0) rv (FX j 3) (fa j 10)), ((fa j 10), mkC (fa j 11)), ((fa j 11), .inl (cJ, 4, .inr (.inl kf)))]) (pl := va_pl L (pf cJ kd pi bd af bo)) (R := (FA_57 ++ FB_58)) hp0)
              have hDq := hD.perm (pm_P (cx := [(r0, rdC ov (va_rf ol) r1 r2 r3 r4 r5), (r1, chC cf cl zn 0), (r2, chC cf cl zn 1), (r3, chC cf cl zn 2), (r4, chC cf cl zn 3), (r5, tlC cI tf), ((fa j 1), snC (FX j 0) (FX j 1) (FX j 2) sv (fa j 2) (fa j 3) (fa j 8)), ((fa j 2), tmC tv), ((fa j 3), boC (fa j 4) (fa j 6) bv), ((fa j 4), mkC (fa j 5)), ((fa j 5), .inl (cJ, 4, .inr (.inl f))), ((fa j 6), mkC (fa j 7)), ((fa j 7), .inl (cJ, 4, .inr (.inl g))), ((fa j 8), cuC cv)]) (xr := [(b0, cbC r0 fl nw), (fl, flC cO n fa), ((fa j 0), fwC (fa j 1) (fa j 9)), ((fa j 9), rcC (FX j 0) rv (FX j 3) (fa j 10)), ((fa j 10), mkC (fa j 11)), ((fa j 11), .inl (cJ, 4, .inr (.inl kf)))]) (pl := va_pl L (pf cJ kd pi bd af bo)) (R := (FA_57 ++ FB_58)) hp0)
              have hPc := hPq.left
              have hDc := hDq.left
              have hFc := va_freeR hDq hS hA
              refine W.know2 (fun hka hkb => ?_)
              have hg0 : gr s.heap _ (0 + c0) := ⟨hka, hkb⟩
              have hle0 := hS.1
              refine va_callv (va_runV (As := [.ref z_47, .ref r0, .int nw]) (rest := []) ⟨hx, hb, hml, hown, ha⟩ (s_hear l D cI cJ cZ cO _ r0 r1 r2 r3 r4 r5 ov ol cf cl zn xl tag L kd pi bd af bo go gq gw ga tf (fa j 1) (fa j 2) (fa j 3) (fa j 4) (fa j 5) (fa j 6) (fa j 7) (fa j 8) (FX j 0) (FX j 1) (FX j 2) sv tv bv cv f g z_47 nw m_z_47 k_z_47 hR hPB hZ hG hJ hT hLK hq0) (cwV 3 ha (gaV kl_X10_143 km_X8_hear ks_X8_hear kz_X8 kd_X8_hear) rfl rfl rfl (by decide +kernel) ⟨Nat.le_of_ble_eq_true rfl, Nat.le_of_ble_eq_true rfl⟩) ⟨pw_blindh, va_recv hK hPc (ci := 8) (q0 := 6) rfl rfl, fun U hU hW => ⟨rfl, pw_starth hU hW hPc hK hDc hN⟩⟩ rfl rfl hl.1 rfl (lv_room (Nat.le_of_ble_eq_true rfl)) dX10_bringAcks_69 ⟨show 2 * (0 + c0) + 2 ≤ 24010 by omega, show 11 * (0 + c0) + 11 ≤ 132110 by omega⟩) hS (fun q _ h => hFc q h) hFc (fun u t H1 locs ht hvm hw hB hz1 hk1 hS => ?_)
              obtain ⟨sv, tv, bv, cv, f, g, ov, tf, ol, cf, cl, zn, xl, tag, L, kd, pi, bd, af, bo, q_82, go, gq, ⟨hf_85, ⟨hG, hJ⟩, hX0, hX1, hX2, hX3, hX4, hX5, hX6, hX7, hX8, hX9⟩, hP1, hK1, hD1⟩ := hB
              have hE := bd_at rfl hE
              have hE := bd_at hX0 hE
              have hE := bd_at hX1 hE
              have hE := bd_at hX2 hE
              have hE := bd_at hX3 hE
              have hE := bd_at hX4 hE
              have hE := bd_at hX5 hE
              have hE := bd_at hX6 hE
              have hE := bd_at hX7 hE
              have hE := bd_at hX8 hE
              have hE := bd_at hX9 hE
              rw [ht] at hP1
              rw [ht] at hf_85
              obtain ⟨hP, hD⟩ := va_joinR (w1 := ([(r0, rdC ov (va_rf ol) r1 r2 r3 r4 r5), (r1, chC cf cl zn 0), (r2, chC cf cl zn 1), (r3, chC cf cl zn 2), (r4, chC cf cl zn 3), (r5, tlC cI tf), ((fa j 1), snC (FX j 0) (FX j 1) (FX j 2) sv (fa j 2) (fa j 3) (fa j 8)), ((fa j 2), tmC tv), ((fa j 3), boC (fa j 4) (fa j 6) bv), ((fa j 4), mkC (fa j 5)), ((fa j 5), .inl (cJ, 4, .inr (.inl f))), ((fa j 6), mkC (fa j 7)), ((fa j 7), .inl (cJ, 4, .inr (.inl g))), ((fa j 8), cuC cv)] ++ va_pl L (pf cJ kd pi bd af bo))) hPq hDq hk1 hFc hP1 hD1
              have hP := hP.perm (pm_Pb (xr := [(b0, cbC r0 fl nw), (fl, flC cO n fa), ((fa j 0), fwC (fa j 1) (fa j 9)), ((fa j 9), rcC (FX j 0) rv (FX j 3) (fa j 10)), ((fa j 10), mkC (fa j 11)), ((fa j 11), .inl (cJ, 4, .inr (.inl kf)))]) (rx := [(r0, rdC ov (va_rf ol) r1 r2 r3 r4 r5), (r1, chC cf cl zn 0), (r2, chC cf cl zn 1), (r3, chC cf cl zn 2), (r4, chC cf cl zn 3), (r5, tlC cI tf), ((fa j 1), snC (FX j 0) (FX j 1) (FX j 2) sv (fa j 2) (fa j 3) (fa j 8)), ((fa j 2), tmC tv), ((fa j 3), boC (fa j 4) (fa j 6) bv), ((fa j 4), mkC (fa j 5)), ((fa j 5), .inl (cJ, 4, .inr (.inl f))), ((fa j 6), mkC (fa j 7)), ((fa j 7), .inl (cJ, 4, .inr (.inl g))), ((fa j 8), cuC cv)]) (pl := va_pl L (pf cJ kd pi bd af bo)) (R := (FA_57 ++ FB_58)))
              have hD := hD.perm (pm_Pb (xr := [(b0, cbC r0 fl nw), (fl, flC cO n fa), ((fa j 0), fwC (fa j 1) (fa j 9)), ((fa j 9), rcC (FX j 0) rv (FX j 3) (fa j 10)), ((fa j 10), mkC (fa j 11)), ((fa j 11), .inl (cJ, 4, .inr (.inl kf)))]) (rx := [(r0, rdC ov (va_rf ol) r1 r2 r3 r4 r5), (r1, chC cf cl zn 0), (r2, chC cf cl zn 1), (r3, chC cf cl zn 2), (r4, chC cf cl zn 3), (r5, tlC cI tf), ((fa j 1), snC (FX j 0) (FX j 1) (FX j 2) sv (fa j 2) (fa j 3) (fa j 8)), ((fa j 2), tmC tv), ((fa j 3), boC (fa j 4) (fa j 6) bv), ((fa j 4), mkC (fa j 5)), ((fa j 5), .inl (cJ, 4, .inr (.inl f))), ((fa j 6), mkC (fa j 7)), ((fa j 7), .inl (cJ, 4, .inr (.inl g))), ((fa j 8), cuC cv)]) (pl := va_pl L (pf cJ kd pi bd af bo)) (R := (FA_57 ++ FB_58)))
              clear hp0 hPq hDq hPc hDc hP1 hD1
              generalize H1 = H at hP hS hf_85 ⊢
              have hP : va_P D vwCl (([(b0, cbC r0 fl nw), (fl, flC cO n fa), ((fa j 0), fwC (fa j 1) (fa j 9)), ((fa j 9), rcC (FX j 0) rv (FX j 3) (fa j 10)), ((fa j 10), mkC (fa j 11)), ((fa j 11), .inl (cJ, 4, .inr (.inl kf))), (r0, rdC ov (va_rf ol) r1 r2 r3 r4 r5), (r1, chC cf cl zn 0), (r2, chC cf cl zn 1), (r3, chC cf cl zn 2), (r4, chC cf cl zn 3), (r5, tlC cI tf), ((fa j 1), snC (FX j 0) (FX j 1) (FX j 2) sv (fa j 2) (fa j 3) (fa j 8)), ((fa j 2), tmC tv), ((fa j 3), boC (fa j 4) (fa j 6) bv), ((fa j 4), mkC (fa j 5)), ((fa j 5), .inl (cJ, 4, .inr (.inl f))), ((fa j 6), mkC (fa j 7)), ((fa j 7), .inl (cJ, 4, .inr (.inl g))), ((fa j 8), cuC cv)] ++ va_pl L (pf cJ kd pi bd af bo)) ++ (FA_57 ++ FB_58)) H := hP
              have hD : va_D A (([(b0, cbC r0 fl nw), (fl, flC cO n fa), ((fa j 0), fwC (fa j 1) (fa j 9)), ((fa j 9), rcC (FX j 0) rv (FX j 3) (fa j 10)), ((fa j 10), mkC (fa j 11)), ((fa j 11), .inl (cJ, 4, .inr (.inl kf))), (r0, rdC ov (va_rf ol) r1 r2 r3 r4 r5), (r1, chC cf cl zn 0), (r2, chC cf cl zn 1), (r3, chC cf cl zn 2), (r4, chC cf cl zn 3), (r5, tlC cI tf), ((fa j 1), snC (FX j 0) (FX j 1) (FX j 2) sv (fa j 2) (fa j 3) (fa j 8)), ((fa j 2), tmC tv), ((fa j 3), boC (fa j 4) (fa j 6) bv), ((fa j 4), mkC (fa j 5)), ((fa j 5), .inl (cJ, 4, .inr (.inl f))), ((fa j 6), mkC (fa j 7)), ((fa j 7), .inl (cJ, 4, .inr (.inl g))), ((fa j 8), cuC cv)] ++ va_pl L (pf cJ kd pi bd af bo)) ++ (FA_57 ++ FB_58)) := hD
              have hpo := pm_X (pl := va_pl L (pf cJ kd pi bd af bo)) (R := (FA_57 ++ FB_58)) (perm_idx (X := [(b0, cbC r0 fl nw), (fl, flC cO n fa), ((fa j 0), fwC (fa j 1) (fa j 9)), ((fa j 9), rcC (FX j 0) rv (FX j 3) (fa j 10)), ((fa j 10), mkC (fa j 11)), ((fa j 11), .inl (cJ, 4, .inr (.inl kf))), (r0, rdC ov (va_rf ol) r1 r2 r3 r4 r5), (r1, chC cf cl zn 0), (r2, chC cf cl zn 1), (r3, chC cf cl zn 2), (r4, chC cf cl zn 3), (r5, tlC cI tf), ((fa j 1), snC (FX j 0) (FX j 1) (FX j 2) sv (fa j 2) (fa j 3) (fa j 8)), ((fa j 2), tmC tv), ((fa j 3), boC (fa j 4) (fa j 6) bv), ((fa j 4), mkC (fa j 5)), ((fa j 5), .inl (cJ, 4, .inr (.inl f))), ((fa j 6), mkC (fa j 7)), ((fa j 7), .inl (cJ, 4, .inr (.inl g))), ((fa j 8), cuC cv)]) (Y := [(b0, cbC r0 fl nw), (fl, flC cO n fa), (r0, rdC ov (va_rf ol) r1 r2 r3 r4 r5), (r1, chC cf cl zn 0), (r2, chC cf cl zn 1), (r3, chC cf cl zn 2), (r4, chC cf cl zn 3), (r5, tlC cI tf), ((fa j 0), fwC (fa j 1) (fa j 9)), ((fa j 1), snC (FX j 0) (FX j 1) (FX j 2) sv (fa j 2) (fa j 3) (fa j 8)), ((fa j 2), tmC tv), ((fa j 3), boC (fa j 4) (fa j 6) bv), ((fa j 4), mkC (fa j 5)), ((fa j 5), .inl (cJ, 4, .inr (.inl f))), ((fa j 6), mkC (fa j 7)), ((fa j 7), .inl (cJ, 4, .inr (.inl g))), ((fa j 8), cuC cv), ((fa j 9), rcC (FX j 0) rv (FX j 3) (fa j 10)), ((fa j 10), mkC (fa j 11)), ((fa j 11), .inl (cJ, 4, .inr (.inl kf)))]) (N := 20) [0, 1, 6, 7, 8, 9, 10, 11, 2, 12, 13, 14, 15, 16, 17, 18, 19, 3, 4, 5] rfl rfl (by decide))
              have hP := hP.perm hpo
              have hD := hD.perm hpo
              clear hpo
              have hP : va_P D vwCl (([(b0, cbC r0 fl nw), (fl, flC cO n fa), (r0, rdC ov (va_rf ol) r1 r2 r3 r4 r5), (r1, chC cf cl zn 0), (r2, chC cf cl zn 1), (r3, chC cf cl zn 2), (r4, chC cf cl zn 3), (r5, tlC cI tf), ((fa j 0), fwC (fa j 1) (fa j 9)), ((fa j 1), snC (FX j 0) (FX j 1) (FX j 2) sv (fa j 2) (fa j 3) (fa j 8)), ((fa j 2), tmC tv), ((fa j 3), boC (fa j 4) (fa j 6) bv), ((fa j 4), mkC (fa j 5)), ((fa j 5), .inl (cJ, 4, .inr (.inl f))), ((fa j 6), mkC (fa j 7)), ((fa j 7), .inl (cJ, 4, .inr (.inl g))), ((fa j 8), cuC cv), ((fa j 9), rcC (FX j 0) rv (FX j 3) (fa j 10)), ((fa j 10), mkC (fa j 11)), ((fa j 11), .inl (cJ, 4, .inr (.inl kf)))] ++ va_pl L (pf cJ kd pi bd af bo)) ++ (FA_57 ++ FB_58)) H := hP
              have hD : va_D A (([(b0, cbC r0 fl nw), (fl, flC cO n fa), (r0, rdC ov (va_rf ol) r1 r2 r3 r4 r5), (r1, chC cf cl zn 0), (r2, chC cf cl zn 1), (r3, chC cf cl zn 2), (r4, chC cf cl zn 3), (r5, tlC cI tf), ((fa j 0), fwC (fa j 1) (fa j 9)), ((fa j 1), snC (FX j 0) (FX j 1) (FX j 2) sv (fa j 2) (fa j 3) (fa j 8)), ((fa j 2), tmC tv), ((fa j 3), boC (fa j 4) (fa j 6) bv), ((fa j 4), mkC (fa j 5)), ((fa j 5), .inl (cJ, 4, .inr (.inl f))), ((fa j 6), mkC (fa j 7)), ((fa j 7), .inl (cJ, 4, .inr (.inl g))), ((fa j 8), cuC cv), ((fa j 9), rcC (FX j 0) rv (FX j 3) (fa j 10)), ((fa j 10), mkC (fa j 11)), ((fa j 11), .inl (cJ, 4, .inr (.inl kf)))] ++ va_pl L (pf cJ kd pi bd af bo)) ++ (FA_57 ++ FB_58)) := hD
              have hR := hf_85.1
              have hPB := hf_85.2.1
              have hZ := hf_85.2.2.1
              have hT := hf_85.2.2.2.1
              have hg0 := gr_trans hle0 hg0 hf_85.2.2.2.2.1
              obtain ⟨c_86, hc_86⟩ : ∃ y, y = c0 + q_82 := ⟨_, rfl⟩
              rw [show 0 + c0 + q_82 = 0 + c_86 by omega] at hg0
              have hB_c_86 : c_86 ≤ 12001 := by have := hf_85.2.2.2.2.2.1; omega
              refine W.grown hg0 ?_
              have hLK := hf_85.2.2.2.2.2.2.1
              have hQ := hf_85.2.2.2.2.2.2.2
              have h9 := hQ.1 z_47 m_z_47
              have m_z_47 := h9.1
              have k_z_47 := h9.2.1.trans k_z_47
              have t_z_47 := h9.2.2 t_z_47
              have hpo := pm_close (X := [(b0, cbC r0 fl nw), (fl, flC cO n fa), (r0, rdC ov (va_rf ol) r1 r2 r3 r4 r5), (r1, chC cf cl zn 0), (r2, chC cf cl zn 1), (r3, chC cf cl zn 2), (r4, chC cf cl zn 3), (r5, tlC cI tf)]) (c := [((fa j 0), fwC (fa j 1) (fa j 9)), ((fa j 1), snC (FX j 0) (FX j 1) (FX j 2) sv (fa j 2) (fa j 3) (fa j 8)), ((fa j 2), tmC tv), ((fa j 3), boC (fa j 4) (fa j 6) bv), ((fa j 4), mkC (fa j 5)), ((fa j 5), .inl (cJ, 4, .inr (.inl f))), ((fa j 6), mkC (fa j 7)), ((fa j 7), .inl (cJ, 4, .inr (.inl g))), ((fa j 8), cuC cv), ((fa j 9), rcC (FX j 0) rv (FX j 3) (fa j 10)), ((fa j 10), mkC (fa j 11)), ((fa j 11), .inl (cJ, 4, .inr (.inl kf)))]) (pl := va_pl L (pf cJ kd pi bd af bo)) (fls_up (sv := sv) (tv := tv) (bv := bv) (cv := cv) (rv := rv) (f := f) (g := g) (kf := kf) hfu_60) (perm_idx (X := [(b0, cbC r0 fl nw), (fl, flC cO n fa), (r0, rdC ov (va_rf ol) r1 r2 r3 r4 r5), (r1, chC cf cl zn 0), (r2, chC cf cl zn 1), (r3, chC cf cl zn 2), (r4, chC cf cl zn 3), (r5, tlC cI tf), ((fa j 0), fwC (fa j 1) (fa j 9)), ((fa j 1), snC (FX j 0) (FX j 1) (FX j 2) sv (fa j 2) (fa j 3) (fa j 8)), ((fa j 2), tmC tv), ((fa j 3), boC (fa j 4) (fa j 6) bv), ((fa j 4), mkC (fa j 5)), ((fa j 5), .inl (cJ, 4, .inr (.inl f))), ((fa j 6), mkC (fa j 7)), ((fa j 7), .inl (cJ, 4, .inr (.inl g))), ((fa j 8), cuC cv), ((fa j 9), rcC (FX j 0) rv (FX j 3) (fa j 10)), ((fa j 10), mkC (fa j 11)), ((fa j 11), .inl (cJ, 4, .inr (.inl kf)))]) (Y := [(b0, cbC r0 fl nw), (fl, flC cO n fa), (r0, rdC ov (va_rf ol) r1 r2 r3 r4 r5), (r1, chC cf cl zn 0), (r2, chC cf cl zn 1), (r3, chC cf cl zn 2), (r4, chC cf cl zn 3), (r5, tlC cI tf), ((fa j 0), fwC (fa j 1) (fa j 9)), ((fa j 1), snC (FX j 0) (FX j 1) (FX j 2) sv (fa j 2) (fa j 3) (fa j 8)), ((fa j 2), tmC tv), ((fa j 3), boC (fa j 4) (fa j 6) bv), ((fa j 4), mkC (fa j 5)), ((fa j 5), .inl (cJ, 4, .inr (.inl f))), ((fa j 6), mkC (fa j 7)), ((fa j 7), .inl (cJ, 4, .inr (.inl g))), ((fa j 8), cuC cv), ((fa j 9), rcC (FX j 0) rv (FX j 3) (fa j 10)), ((fa j 10), mkC (fa j 11)), ((fa j 11), .inl (cJ, 4, .inr (.inl kf)))]) (N := 20) [0, 1, 2, 3, 4, 5, 6, 7, 8, 9, 10, 11, 12, 13, 14, 15, 16, 17, 18, 19] rfl rfl (by decide))
              have hP := hP.perm hpo
              have hD := hD.perm hpo
              clear hpo hfu_60
              have hP : va_P D vwCl (([(b0, cbC r0 fl nw), (fl, flC cO n fa), (r0, rdC ov (va_rf ol) r1 r2 r3 r4 r5), (r1, chC cf cl zn 0), (r2, chC cf cl zn 1), (r3, chC cf cl zn 2), (r4, chC cf cl zn 3), (r5, tlC cI tf)] ++ va_pl L (pf cJ kd pi bd af bo)) ++ fls cJ fa FX (va_up FV j (fpk sv tv bv cv rv)) (va_up FJ j (fpj f g kf)) n) H := hP
              have hD : va_D A (([(b0, cbC r0 fl nw), (fl, flC cO n fa), (r0, rdC ov (va_rf ol) r1 r2 r3 r4 r5), (r1, chC cf cl zn 0), (r2, chC cf cl zn 1), (r3, chC cf cl zn 2), (r4, chC cf cl zn 3), (r5, tlC cI tf)] ++ va_pl L (pf cJ kd pi bd af bo)) ++ fls cJ fa FX (va_up FV j (fpk sv tv bv cv rv)) (va_up FJ j (fpj f g kf)) n) := hD
              generalize hfv : va_up FV j (fpk sv tv bv cv rv) = FV at hP hD
              generalize hfj : va_up FJ j (fpj f g kf) = FJ at hP hD
              have hE := bs_at hfv hE
              have hE := bs_at hfj hE
              clear hfv hfj
              refine lv_aload_n hx hb dX10_bringAcks_72 rfl (lv_at hl 1 rfl) ?_
              refine va_get (D := D) (ci := 10) (v := .ref r0) (C := RX10) (T := TX10) (N := 3) hx hb ha inlX10 hown hK hP 0 rfl rfl 0 (by decide) (ha _ kf_X10_10) (fun _ h9 => h9) rfl dX10_bringAcks_73 ?_
              refine va_getN (D := D) (ci := 7) (v := .ref r4) (C := RX7) (T := TX7) (N := 15) hx hb ha inlX7 hown hK hP 2 rfl rfl 8 (by decide) (va_Nw.use rfl (hN.f RX10 127 "CongestionBench$Road" "spare" "LCongestionBench$Chain;" "CongestionBench" (by decide +kernel))) (fun _ h9 => h9) rfl dX10_bringAcks_76 ?_
              refine lv_aload_n hx hb dX10_bringAcks_79 rfl (lv_at hl 0 rfl) ?_
              have hp0 := perm_idx (X := [(b0, cbC r0 fl nw), (fl, flC cO n fa), (r0, rdC ov (va_rf ol) r1 r2 r3 r4 r5), (r1, chC cf cl zn 0), (r2, chC cf cl zn 1), (r3, chC cf cl zn 2), (r4, chC cf cl zn 3), (r5, tlC cI tf)]) (Y := [(r4, chC cf cl zn 3)] ++ [(b0, cbC r0 fl nw), (fl, flC cO n fa), (r0, rdC ov (va_rf ol) r1 r2 r3 r4 r5), (r1, chC cf cl zn 0), (r2, chC cf cl zn 1), (r3, chC cf cl zn 2), (r5, tlC cI tf)]) (N := 8) [6, 0, 1, 2, 3, 4, 5, 7] rfl rfl (by decide)
              have hPq := hP.perm (pm_P (cx := [(r4, chC cf cl zn 3)]) (xr := [(b0, cbC r0 fl nw), (fl, flC cO n fa), (r0, rdC ov (va_rf ol) r1 r2 r3 r4 r5), (r1, chC cf cl zn 0), (r2, chC cf cl zn 1), (r3, chC cf cl zn 2), (r5, tlC cI tf)]) (pl := va_pl L (pf cJ kd pi bd af bo)) (R := fls cJ fa FX FV FJ n) hp0)
              have hDq := hD.perm (pm_P (cx := [(r4, chC cf cl zn 3)]) (xr := [(b0, cbC r0 fl nw), (fl, flC cO n fa), (r0, rdC ov (va_rf ol) r1 r2 r3 r4 r5), (r1, chC cf cl zn 0), (r2, chC cf cl zn 1), (r3, chC cf cl zn 2), (r5, tlC cI tf)]) (pl := va_pl L (pf cJ kd pi bd af bo)) (R := fls cJ fa FX FV FJ n) hp0)
              have hPc := hPq.left
              have hDc := hDq.left
              have hFc := va_freeR hDq hS hA
              refine va_callv (va_runV (As := [.ref z_47]) (rest := []) ⟨hx, hb, hml, hown, ha⟩ (s_append l D cI cJ cZ cO _ r4 z_47 L kd pi bd af bo (cf 3) (cl 3) (zn 3) m_z_47 k_z_47 (RI_la hR (by decide))) (cwV 1 ha (gaV kl_X10_130 km_X1_append ks_X1_append kz_X1 kd_X1_append) rfl rfl rfl (by decide +kernel) ⟨Nat.le_of_ble_eq_true rfl, Nat.le_of_ble_eq_true rfl⟩) ⟨pw_blind, va_recv hK hPc (ci := 1) (q0 := 0) rfl rfl, fun U hU hW => ⟨rfl, pw_start hU hW hPc hK hDc hN⟩⟩ rfl rfl hl.1 rfl (lv_room (Nat.le_of_ble_eq_true rfl)) dX10_bringAcks_80 ⟨show 2 * (0 + c_86) + 0 ≤ 24010 by omega, show 11 * (0 + c_86) + 0 ≤ 132110 by omega⟩) hS (fun q _ h => hFc q h) hFc (fun u t H1 locs ht hvm hw hB hz1 hk1 hS => ?_)
              obtain ⟨hP1, hK1, hD1⟩ := hB
              rw [ht] at hP1
              obtain ⟨hP, hD⟩ := va_joinR (w1 := ([(r4, .inr (1, [va_rf (ap_fi (cl 3) (cf 3) z_47), va_rf (some z_47), .int ((zn 3) + 1)]))] ++ va_pl L (pf cJ kd pi bd (ap_af af (cl 3) z_47) bo))) hPq hDq hk1 hFc hP1 hD1
              have hP := hP.perm (pm_Pb (xr := [(b0, cbC r0 fl nw), (fl, flC cO n fa), (r0, rdC ov (va_rf ol) r1 r2 r3 r4 r5), (r1, chC cf cl zn 0), (r2, chC cf cl zn 1), (r3, chC cf cl zn 2), (r5, tlC cI tf)]) (rx := [(r4, .inr (1, [va_rf (ap_fi (cl 3) (cf 3) z_47), va_rf (some z_47), .int ((zn 3) + 1)]))]) (pl := va_pl L (pf cJ kd pi bd (ap_af af (cl 3) z_47) bo)) (R := fls cJ fa FX FV FJ n))
              have hD := hD.perm (pm_Pb (xr := [(b0, cbC r0 fl nw), (fl, flC cO n fa), (r0, rdC ov (va_rf ol) r1 r2 r3 r4 r5), (r1, chC cf cl zn 0), (r2, chC cf cl zn 1), (r3, chC cf cl zn 2), (r5, tlC cI tf)]) (rx := [(r4, .inr (1, [va_rf (ap_fi (cl 3) (cf 3) z_47), va_rf (some z_47), .int ((zn 3) + 1)]))]) (pl := va_pl L (pf cJ kd pi bd (ap_af af (cl 3) z_47) bo)) (R := fls cJ fa FX FV FJ n))
              clear hp0 hPq hDq hPc hDc hP1 hD1
              generalize H1 = H at hP hS ⊢
              have hP : va_P D vwCl (([(b0, cbC r0 fl nw), (fl, flC cO n fa), (r0, rdC ov (va_rf ol) r1 r2 r3 r4 r5), (r1, chC cf cl zn 0), (r2, chC cf cl zn 1), (r3, chC cf cl zn 2), (r5, tlC cI tf), (r4, .inr (1, [va_rf (ap_fi (cl 3) (cf 3) z_47), va_rf (some z_47), .int ((zn 3) + 1)]))] ++ va_pl L (pf cJ kd pi bd (ap_af af (cl 3) z_47) bo)) ++ fls cJ fa FX FV FJ n) H := hP
              have hD : va_D A (([(b0, cbC r0 fl nw), (fl, flC cO n fa), (r0, rdC ov (va_rf ol) r1 r2 r3 r4 r5), (r1, chC cf cl zn 0), (r2, chC cf cl zn 1), (r3, chC cf cl zn 2), (r5, tlC cI tf), (r4, .inr (1, [va_rf (ap_fi (cl 3) (cf 3) z_47), va_rf (some z_47), .int ((zn 3) + 1)]))] ++ va_pl L (pf cJ kd pi bd (ap_af af (cl 3) z_47) bo)) ++ fls cJ fa FX FV FJ n) := hD
              have hpo := pm_X (pl := va_pl L (pf cJ kd pi bd (ap_af af (cl 3) z_47) bo)) (R := fls cJ fa FX FV FJ n) (perm_idx (X := [(b0, cbC r0 fl nw), (fl, flC cO n fa), (r0, rdC ov (va_rf ol) r1 r2 r3 r4 r5), (r1, chC cf cl zn 0), (r2, chC cf cl zn 1), (r3, chC cf cl zn 2), (r5, tlC cI tf), (r4, .inr (1, [va_rf (ap_fi (cl 3) (cf 3) z_47), va_rf (some z_47), .int ((zn 3) + 1)]))]) (Y := [(b0, cbC r0 fl nw), (fl, flC cO n fa), (r0, rdC ov (va_rf ol) r1 r2 r3 r4 r5), (r1, chC cf cl zn 0), (r2, chC cf cl zn 1), (r3, chC cf cl zn 2), (r4, .inr (1, [va_rf (ap_fi (cl 3) (cf 3) z_47), va_rf (some z_47), .int ((zn 3) + 1)])), (r5, tlC cI tf)]) (N := 8) [0, 1, 2, 3, 4, 5, 7, 6] rfl rfl (by decide))
              have hP := hP.perm hpo
              have hD := hD.perm hpo
              clear hpo
              have hP : va_P D vwCl (([(b0, cbC r0 fl nw), (fl, flC cO n fa), (r0, rdC ov (va_rf ol) r1 r2 r3 r4 r5), (r1, chC cf cl zn 0), (r2, chC cf cl zn 1), (r3, chC cf cl zn 2), (r4, .inr (1, [va_rf (ap_fi (cl 3) (cf 3) z_47), va_rf (some z_47), .int ((zn 3) + 1)])), (r5, tlC cI tf)] ++ va_pl L (pf cJ kd pi bd (ap_af af (cl 3) z_47) bo)) ++ fls cJ fa FX FV FJ n) H := hP
              have hD : va_D A (([(b0, cbC r0 fl nw), (fl, flC cO n fa), (r0, rdC ov (va_rf ol) r1 r2 r3 r4 r5), (r1, chC cf cl zn 0), (r2, chC cf cl zn 1), (r3, chC cf cl zn 2), (r4, .inr (1, [va_rf (ap_fi (cl 3) (cf 3) z_47), va_rf (some z_47), .int ((zn 3) + 1)])), (r5, tlC cI tf)] ++ va_pl L (pf cJ kd pi bd (ap_af af (cl 3) z_47) bo)) ++ fls cJ fa FX FV FJ n) := hD
              refine W.widen (k := 2 * (0 + c_86)) (n := 11 * (0 + c_86)) (Nat.le_refl _) (Nat.le_refl _) ?_
              obtain ⟨hTK, hln⟩ := TK_ack hTK e1 hxa hQ hc (by decide)
              have hln : (va_up xl 3 (xl 3 ++ [z_47]) 2).length = t_l2.length := by rw [va_up_ne _ _ (by decide)]; exact hln
              have hZ := ZN_app (q := z_47) hZ (j := 3) (by decide)
              have hR := RI_append hR (i := 3) (by decide) m_z_47 k_z_47 t_z_47
              generalize (ap_af af (cl 3) z_47) = af at hP hD hR
              have hP : va_P D vwCl (([(b0, cbC r0 fl nw), (fl, flC cO n fa), (r0, rdC ov (va_rf ol) r1 r2 r3 r4 r5), (r1, .inr (1, [va_rf ((va_up cf 3 (ap_fi (cl 3) (cf 3) z_47)) 0), va_rf ((va_up cl 3 (some z_47)) 0), .int ((va_up zn 3 (zn 3 + 1)) 0)])), (r2, .inr (1, [va_rf ((va_up cf 3 (ap_fi (cl 3) (cf 3) z_47)) 1), va_rf ((va_up cl 3 (some z_47)) 1), .int ((va_up zn 3 (zn 3 + 1)) 1)])), (r3, .inr (1, [va_rf ((va_up cf 3 (ap_fi (cl 3) (cf 3) z_47)) 2), va_rf ((va_up cl 3 (some z_47)) 2), .int ((va_up zn 3 (zn 3 + 1)) 2)])), (r4, .inr (1, [va_rf ((va_up cf 3 (ap_fi (cl 3) (cf 3) z_47)) 3), va_rf ((va_up cl 3 (some z_47)) 3), .int ((va_up zn 3 (zn 3 + 1)) 3)])), (r5, tlC cI tf)] ++ va_pl L (pf cJ kd pi bd af bo)) ++ fls cJ fa FX FV FJ n) H := hP
              have hD : va_D A (([(b0, cbC r0 fl nw), (fl, flC cO n fa), (r0, rdC ov (va_rf ol) r1 r2 r3 r4 r5), (r1, .inr (1, [va_rf ((va_up cf 3 (ap_fi (cl 3) (cf 3) z_47)) 0), va_rf ((va_up cl 3 (some z_47)) 0), .int ((va_up zn 3 (zn 3 + 1)) 0)])), (r2, .inr (1, [va_rf ((va_up cf 3 (ap_fi (cl 3) (cf 3) z_47)) 1), va_rf ((va_up cl 3 (some z_47)) 1), .int ((va_up zn 3 (zn 3 + 1)) 1)])), (r3, .inr (1, [va_rf ((va_up cf 3 (ap_fi (cl 3) (cf 3) z_47)) 2), va_rf ((va_up cl 3 (some z_47)) 2), .int ((va_up zn 3 (zn 3 + 1)) 2)])), (r4, .inr (1, [va_rf ((va_up cf 3 (ap_fi (cl 3) (cf 3) z_47)) 3), va_rf ((va_up cl 3 (some z_47)) 3), .int ((va_up zn 3 (zn 3 + 1)) 3)])), (r5, tlC cI tf)] ++ va_pl L (pf cJ kd pi bd af bo)) ++ fls cJ fa FX FV FJ n) := hD
              generalize va_up cf 3 (ap_fi (cl 3) (cf 3) z_47) = cf at hP hD hR
              generalize va_up cl 3 (some z_47) = cl at hP hD hR
              generalize va_up zn 3 (zn 3 + 1) = zn at hP hD hZ
              have hG := GG_x3 (l := xl 3 ++ [z_47]) hG
              generalize va_up xl 3 (xl 3 ++ [z_47]) = xl at hR hZ hTK hln hG
              generalize va_up tag z_47 3 = tag at hR
              rw [show b + c0 + q_82 = b + c_86 by omega] at hTK
              have hB_c_86 : c_86 ≤ 12000 := by have := (TK_b hTK).1; omega
              obtain ⟨x_88, ex_88⟩ : ∃ y : Int32, y = lf + (-1) := ⟨_, rfl⟩
              refine lv_iinc (v := x_88) (lv' := [(1, .int x_88), (2, .ref z_47), (0, .ref b0)]) hx hb dX10_bringAcks_83 hl (k := 2) rfl (by rw [ex_88]; rfl) (by decide) rfl (fun ls hl => ?_)
              refine lv_goto (tgt := 11) hx hb dX10_bringAcks_86 (by decide) ?_
              have hx9 : x_88 = nI (xl 2).length := by rw [ex_88, hlf, e1, List.length_cons, hln, ← Int32.sub_eq_add_neg, nI_pred]
              have hm9 : (xl 2).length < k := by rw [e1, List.length_cons] at hm; omega
              refine W.know2 (fun hka hkb => ?_)
              have hg0 : gr s.heap _ (0 + c_86) := ⟨hka, hkb⟩
              exact ih c_86 x_88 ov tf ol cf cl zn xl tag L kd pi bd af bo go gq gw ga FV FJ _ _ hP hD hS hR hPB hZ hG hJ hT hLK hTK hg0 hx9 _ (lv_sub hl [2, 0] rfl) hE hm9
  have hg9 : gr s.heap s.heap (0 + 0) := ⟨by omega, fun k hk => by omega⟩
  rw [hQP] at loop
  exact loop ((xl 2).length + 1) 0 (zn 2) ov tf ol cf cl zn xl tag L kd pi bd af bo go gq gw ga FV FJ _ _ hP hD hS hR hPB hZ hG hJ hT hLK hK0 hg9 (hZ 2 (by decide)) _ (lv_sub hl [1, 0] rfl) hE (Nat.lt_succ_self _)

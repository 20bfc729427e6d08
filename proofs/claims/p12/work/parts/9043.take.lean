set_option maxRecDepth 100000 in
def xc_take_162 (ov : Nat → Int32) (ga : List A6) (n0 : Int32) (w0 : Int32) (pk : S4) (n1 : Int32) (rv : Nat → Int32) (f : Nat → Int64) (i4 : Int32) (i5 : Int32) (i6 : Int32) (i7 : Int32) : (Nat → Int32) × (Nat → Int64) × (List A6) := (if i7 = (0 : Int32) then bd (pk.2.2.2) (fun v1 => bd (xc_answer ov ga n0 w0 rv f v1 n1) (fun t2 => bd (t2.1) (fun rv => bd (t2.2.1) (fun f => bd (t2.2.2) (fun ga => (rv, f, ga)))))) else bd (n1 + (100 : Int32)) (fun v3 => bd (upd rv 9 v3) (fun rv => (rv, f, ga))))
set_option maxRecDepth 100000 in
def xc_take_152 (ov : Nat → Int32) (ga : List A6) (n0 : Int32) (w0 : Int32) (pk : S4) (n1 : Int32) (rv : Nat → Int32) (f : Nat → Int64) (i4 : Int32) (i5 : Int32) (i6 : Int32) (i7 : Int32) : (Nat → Int32) × (Nat → Int64) × (List A6) := bd (rv 8) (fun v4 => bd (v4 + (1 : Int32)) (fun v5 => bd (upd rv 8 v5) (fun rv => xc_take_162 ov ga n0 w0 pk n1 rv f i4 i5 i6 i7)))
set_option maxRecDepth 100000 in
def xc_take_89 (ov : Nat → Int32) (ga : List A6) (n0 : Int32) (w0 : Int32) (pk : S4) (n1 : Int32) (rv : Nat → Int32) (f : Nat → Int64) (i4 : Int32) (i5 : Int32) (i6 : Int32) (s0 : Int32) : (Nat → Int32) × (Nat → Int64) × (List A6) := bd (rv 7) (fun v6 => bd (v6 + (1 : Int32)) (fun v7 => bd (upd rv 7 v7) (fun rv => (if i6 = (0 : Int32) then (if i5 = (0 : Int32) then xc_take_152 ov ga n0 w0 pk n1 rv f i4 i5 i6 s0 else bd (xc_has f i4) (fun t8 => bd (t8.1) (fun f => bd (t8.2) (fun v9 => (if v9 = (0 : Int32) then bd (xc_put f i4) (fun t10 => bd (t10) (fun f => bd (rv 5) (fun v11 => bd (v11 + (1 : Int32)) (fun v12 => bd (upd rv 5 v12) (fun rv => xc_take_162 ov ga n0 w0 pk n1 rv f i4 i5 i6 s0))))) else xc_take_152 ov ga n0 w0 pk n1 rv f i4 i5 i6 s0))))) else bd (xc_rgoOn n0 w0 rv f) (fun t13 => bd (t13.1) (fun rv => bd (t13.2) (fun f => xc_take_162 ov ga n0 w0 pk n1 rv f i4 i5 i6 s0)))))))
set_option maxRecDepth 100000 in
def xc_take_88 (ov : Nat → Int32) (ga : List A6) (n0 : Int32) (w0 : Int32) (pk : S4) (n1 : Int32) (rv : Nat → Int32) (f : Nat → Int64) (i4 : Int32) (i5 : Int32) (i6 : Int32) : (Nat → Int32) × (Nat → Int64) × (List A6) := xc_take_89 ov ga n0 w0 pk n1 rv f i4 i5 i6 (0 : Int32)
set_option maxRecDepth 100000 in
def xc_take_55 (ov : Nat → Int32) (ga : List A6) (n0 : Int32) (w0 : Int32) (pk : S4) (n1 : Int32) (rv : Nat → Int32) (f : Nat → Int64) (i4 : Int32) (i5 : Int32) (s0 : Int32) : (Nat → Int32) × (Nat → Int64) × (List A6) := bd (rv 1) (fun v14 => (if v14 = (0 : Int32) then xc_take_88 ov ga n0 w0 pk n1 rv f i4 i5 s0 else (if s0 = (0 : Int32) then xc_take_88 ov ga n0 w0 pk n1 rv f i4 i5 s0 else bd (rv 5) (fun v15 => (if v15 = (0 : Int32) then bd (rv 9) (fun v16 => (if v16 = ((-1) : Int32) then xc_take_89 ov ga n0 w0 pk n1 rv f i4 i5 s0 (1 : Int32) else xc_take_88 ov ga n0 w0 pk n1 rv f i4 i5 s0)) else xc_take_88 ov ga n0 w0 pk n1 rv f i4 i5 s0)))))
set_option maxRecDepth 100000 in
def xc_take_54 (ov : Nat → Int32) (ga : List A6) (n0 : Int32) (w0 : Int32) (pk : S4) (n1 : Int32) (rv : Nat → Int32) (f : Nat → Int64) (i4 : Int32) (i5 : Int32) : (Nat → Int32) × (Nat → Int64) × (List A6) := xc_take_55 ov ga n0 w0 pk n1 rv f i4 i5 (0 : Int32)
set_option maxRecDepth 100000 in
def xc_take_34 (ov : Nat → Int32) (ga : List A6) (n0 : Int32) (w0 : Int32) (pk : S4) (n1 : Int32) (rv : Nat → Int32) (f : Nat → Int64) (i4 : Int32) (s0 : Int32) : (Nat → Int32) × (Nat → Int64) × (List A6) := (if s0 = (0 : Int32) then xc_take_54 ov ga n0 w0 pk n1 rv f i4 s0 else bd (rv 2) (fun v17 => (if i4 = v17 then xc_take_55 ov ga n0 w0 pk n1 rv f i4 s0 (1 : Int32) else xc_take_54 ov ga n0 w0 pk n1 rv f i4 s0)))
set_option maxRecDepth 100000 in
def xc_take_33 (ov : Nat → Int32) (ga : List A6) (n0 : Int32) (w0 : Int32) (pk : S4) (n1 : Int32) (rv : Nat → Int32) (f : Nat → Int64) (i4 : Int32) : (Nat → Int32) × (Nat → Int64) × (List A6) := xc_take_34 ov ga n0 w0 pk n1 rv f i4 (0 : Int32)
set_option maxRecDepth 100000 in
def xc_take (ov : Nat → Int32) (ga : List A6) (n0 : Int32) (w0 : Int32) (rv : Nat → Int32) (f : Nat → Int64) (n1 : Int32) (pk : S4) : (Nat → Int32) × (Nat → Int64) × (List A6) := bd (pk.2.2.1) (fun v18 => bd (rv 2) (fun v19 => (if v18 < v19 then xc_take_33 ov ga n0 w0 pk n1 rv f v18 else bd (rv 2) (fun v20 => bd (v20 + w0) (fun v21 => (if v21 ≤ v18 then xc_take_33 ov ga n0 w0 pk n1 rv f v18 else xc_take_34 ov ga n0 w0 pk n1 rv f v18 (1 : Int32)))))))
set_option maxHeartbeats 4000000 in
set_option maxRecDepth 100000 in
theorem s_take (l : Launch) (D : va_G) (cI cJ cZ cO : ClassId) (Hh : Heap) (r0 r1 r2 r3 r4 r5 : Nat) (ov : Nat → Int32) (ol : Option Nat) (cf cl : Nat → Option Nat) (zn : Nat → Int32) (xl : Nat → List Nat) (tag : Nat → Nat) (L : List Nat) (kd : Nat → Bool) (pi : Nat → Nat → Int32) (bd : Nat → Nat) (af : Nat → Option Nat) (bo : Nat → Nat → Int64) (go : Option S4) (gq : List S3) (gw : List S4) (ga : List A6) (h0 h1 h2 : Nat) (n0 w0 : Int32) (rv : Nat → Int32) (f : Nat → Int64) (q : Nat) (n1 : Int32) (m_q : q ∈ L) (k_q : kd q = false) (hR : RI L kd af tag cf cl xl ol) (hPB : PB L kd pi bd) (hZ : ZN zn xl) (hG : GG xl pi bd bo ol go gq gw ga) (hJ : JB L kd bd) (hS2 : Srt (dz pi (xl 2))) : Met l yX6_take (wa yX6_take cX6_take 8 none) ({ frames := 4, cells := 2, slots := 11, locals := 90 }) (va_Pc [.ref h0, .ref q, .ref r0, .int n1] (pw_h D cI cJ cZ cO Hh ([(r0, rdC ov (va_rf ol) r1 r2 r3 r4 r5), (r1, chC cf cl zn 0), (r2, chC cf cl zn 1), (r3, chC cf cl zn 2), (r4, chC cf cl zn 3), (h0, rcC n0 rv w0 h1), (h1, mkC h2), (h2, .inl (cJ, 4, .inr (.inl f)))] ++ va_pl L (pf cJ kd pi bd af bo)))) (va_Qv (fun (_ : Unit) => True) (fun (_ : Unit) (t : State) => ∃ (rv2 : Nat → Int32) (cf2 cl2 : Nat → Option Nat) (zn2 : Nat → Int32) (xl2 : Nat → List Nat) (tag2 : Nat → Nat) (f2 : Nat → Int64) (L2 : List Nat) (kd2 : Nat → Bool) (pi2 : Nat → Nat → Int32) (bd2 : Nat → Nat) (af2 : Nat → Option Nat) (bo2 : Nat → Nat → Int64) (b2 : Nat) (ga2 : List A6) (ad2 : List Int32), ((RI L2 kd2 af2 tag2 cf2 cl2 xl2 ol ∧ PB L2 kd2 pi2 bd2 ∧ ZN zn2 xl2 ∧ gr Hh t.heap b2 ∧ b2 ≤ 1 ∧ (ad2 = [] ∨ ad2 = [n1 + ov 3]) ∧ QQ L kd tag xl pi ol L2 kd2 tag2 xl2 pi2 ol [] ad2 b2 0) ∧ (GG xl2 pi2 bd2 bo2 ol go gq gw ga2 ∧ JB L2 kd2 bd2) ∧ rv2 = (xc_take ov ga n0 w0 rv f n1 (cs pi q)).1 ∧ f2 = (xc_take ov ga n0 w0 rv f n1 (cs pi q)).2.1 ∧ ga2 = (xc_take ov ga n0 w0 rv f n1 (cs pi q)).2.2) ∧ pw_t D cI cJ cZ cO (va_A ([(r0, rdC ov (va_rf ol) r1 r2 r3 r4 r5), (r1, chC cf cl zn 0), (r2, chC cf cl zn 1), (r3, chC cf cl zn 2), (r4, chC cf cl zn 3), (h0, rcC n0 rv w0 h1), (h1, mkC h2), (h2, .inl (cJ, 4, .inr (.inl f)))] ++ va_pl L (pf cJ kd pi bd af bo)) Hh.size) ([(r0, rdC ov (va_rf ol) r1 r2 r3 r4 r5), (r1, chC cf2 cl2 zn2 0), (r2, chC cf2 cl2 zn2 1), (r3, chC cf2 cl2 zn2 2), (r4, chC cf2 cl2 zn2 3), (h0, rcC n0 rv2 w0 h1), (h1, mkC h2), (h2, .inl (cJ, 4, .inr (.inl f2)))] ++ va_pl L2 (pf cJ kd2 pi2 bd2 af2 bo2)) t) (va_A ([(r0, rdC ov (va_rf ol) r1 r2 r3 r4 r5), (r1, chC cf cl zn 0), (r2, chC cf cl zn 1), (r3, chC cf cl zn 2), (r4, chC cf cl zn 3), (h0, rcC n0 rv w0 h1), (h1, mkC h2), (h2, .inl (cJ, 4, .inr (.inl f)))] ++ va_pl L (pf cJ kd pi bd af bo)) Hh.size)) 2 11 (va_A ([(r0, rdC ov (va_rf ol) r1 r2 r3 r4 r5), (r1, chC cf cl zn 0), (r2, chC cf cl zn 1), (r3, chC cf cl zn 2), (r4, chC cf cl zn 3), (h0, rcC n0 rv w0 h1), (h1, mkC h2), (h2, .inl (cJ, 4, .inr (.inl f)))] ++ va_pl L (pf cJ kd pi bd af bo)) Hh.size) := by
  refine Met.ofW (cc := cX6_take) (maxL := 8) (ret := none) (by decide) rfl ?_
  intro p e s m args below meth c s₁ B hml hv
  obtain ⟨rfl, hsz, hP, hK, hD0, hN⟩ := hv
  have hx := B.exec
  have hb := B.bytes
  have hr := B.returns
  have hts := atoms_spec (ws := (wa yX6_take cX6_take 8 none)) B.pre
  have ha : ∀ w ∈ wsL_law, w.before _ s = true := fun w h => hts w (List.mem_cons_of_mem _ h)
  have hown : s.vm.findClass RX6 = some m.cls := findClass_of_methodNamed B.named
  have hlocks := B.notSynchronized
  subst hsz
  have hD := hD0.self (sz := s.heap.size)
  generalize hAe : va_A ([(r0, rdC ov (va_rf ol) r1 r2 r3 r4 r5), (r1, chC cf cl zn 0), (r2, chC cf cl zn 1), (r3, chC cf cl zn 2), (r4, chC cf cl zn 3), (h0, rcC n0 rv w0 h1), (h1, mkC h2), (h2, .inl (cJ, 4, .inr (.inl f)))] ++ va_pl L (pf cJ kd pi bd af bo)) s.heap.size = A at hD ⊢
  have hA : ∀ q : Nat, s.heap.size ≤ q → A q := fun q h => by rw [← hAe]; exact Or.inr h
  have hS : va_S A s.heap s.heap [] := va_S.rf
  have hP : va_P D vwCl ([(r0, rdC ov (va_rf ol) r1 r2 r3 r4 r5), (r1, chC cf cl zn 0), (r2, chC cf cl zn 1), (r3, chC cf cl zn 2), (r4, chC cf cl zn 3), (h0, rcC n0 rv w0 h1), (h1, mkC h2), (h2, .inl (cJ, 4, .inr (.inl f)))] ++ va_pl L (pf cJ kd pi bd af bo)) s.heap := hP
  have hl := lv_entry ([.ref h0, .ref q, .ref r0, .int n1]) (n := 8) (Nat.le_of_ble_eq_true rfl)
  rw [lg_entry_eq]
  generalize (lg_sl ([.ref h0, .ref q, .ref r0, .int n1]) ++ List.replicate (8 - (lg_sl ([.ref h0, .ref q, .ref r0, .int n1])).length) Slot.unset).toArray = ls at hl ⊢
  have hl : lv_has ls 8 [(0, .ref h0), (1, .ref q), (2, .ref r0), (3, .int n1)] := hl
  obtain ⟨QP, hQP⟩ : ∃ y : State → Prop, y = (MQ below (va_Qv (fun (_ : Unit) => True) (fun (_ : Unit) (t : State) => ∃ (rv2 : Nat → Int32) (cf2 cl2 : Nat → Option Nat) (zn2 : Nat → Int32) (xl2 : Nat → List Nat) (tag2 : Nat → Nat) (f2 : Nat → Int64) (L2 : List Nat) (kd2 : Nat → Bool) (pi2 : Nat → Nat → Int32) (bd2 : Nat → Nat) (af2 : Nat → Option Nat) (bo2 : Nat → Nat → Int64) (b2 : Nat) (ga2 : List A6) (ad2 : List Int32), ((RI L2 kd2 af2 tag2 cf2 cl2 xl2 ol ∧ PB L2 kd2 pi2 bd2 ∧ ZN zn2 xl2 ∧ gr s.heap t.heap b2 ∧ b2 ≤ 1 ∧ (ad2 = [] ∨ ad2 = [n1 + ov 3]) ∧ QQ L kd tag xl pi ol L2 kd2 tag2 xl2 pi2 ol [] ad2 b2 0) ∧ (GG xl2 pi2 bd2 bo2 ol go gq gw ga2 ∧ JB L2 kd2 bd2) ∧ rv2 = (xc_take ov ga n0 w0 rv f n1 (cs pi q)).1 ∧ f2 = (xc_take ov ga n0 w0 rv f n1 (cs pi q)).2.1 ∧ ga2 = (xc_take ov ga n0 w0 rv f n1 (cs pi q)).2.2) ∧ pw_t D cI cJ cZ cO A ([(r0, rdC ov (va_rf ol) r1 r2 r3 r4 r5), (r1, chC cf2 cl2 zn2 0), (r2, chC cf2 cl2 zn2 1), (r3, chC cf2 cl2 zn2 2), (r4, chC cf2 cl2 zn2 3), (h0, rcC n0 rv2 w0 h1), (h1, mkC h2), (h2, .inl (cJ, 4, .inr (.inl f2)))] ++ va_pl L2 (pf cJ kd2 pi2 bd2 af2 bo2)) t) A) #[(.ref h0 : Value), (.ref q : Value), (.ref r0 : Value), (.int n1 : Value)] s 2 11 A) := ⟨_, rfl⟩
  obtain ⟨RES, hRES⟩ : ∃ y, y = (xc_take ov ga n0 w0 rv f n1 (cs pi q)) := ⟨_, rfl⟩
  have hQ : QQ L kd tag xl pi ol L kd tag xl pi ol [] [] 0 0 := QQ_rf
  have J_162 : ∀ (rv : Nat → Int32) (f : Nat → Int64) (H : Heap) (locs : List Loc), va_P D vwCl ([(r0, rdC ov (va_rf ol) r1 r2 r3 r4 r5), (r1, chC cf cl zn 0), (r2, chC cf cl zn 1), (r3, chC cf cl zn 2), (r4, chC cf cl zn 3), (h0, rcC n0 rv w0 h1), (h1, mkC h2), (h2, .inl (cJ, 4, .inr (.inl f)))] ++ va_pl L (pf cJ kd pi bd af bo)) H → va_D A ([(r0, rdC ov (va_rf ol) r1 r2 r3 r4 r5), (r1, chC cf cl zn 0), (r2, chC cf cl zn 1), (r3, chC cf cl zn 2), (r4, chC cf cl zn 3), (h0, rcC n0 rv w0 h1), (h1, mkC h2), (h2, .inl (cJ, 4, .inr (.inl f)))] ++ va_pl L (pf cJ kd pi bd af bo)) → va_S A s.heap H locs → ∀ (i4 : Int32) (i5 : Int32) (i6 : Int32) (i7 : Int32) (ls : Array Slot), lv_has ls 8 [(0, .ref h0), (1, .ref q), (2, .ref r0), (3, .int n1), (4, .int i4), (5, .int i5), (6, .int i6), (7, .int i7)] → RES = xc_take_162 ov ga n0 w0 (cs pi q) n1 rv f i4 i5 i6 i7 → W p l e ({ frames := 4, cells := 2, slots := 11, locals := 90 }) s m #[(.ref h0 : Value), (.ref q : Value), (.ref r0 : Value), (.int n1 : Value)] below meth c H locs 0 0 QP (F0 m 162 ls []) := by
    intro rv f H locs hP hD hS i4 i5 i6 i7 ls hl hE
    unfold xc_take_162 at hE
    refine lv_iload hx hb dX6_take_162 (lv_at hl 7 rfl) ?_
    refine lv_if_eq (tgt := 178) hx hb dX6_take_164 (by decide) (fun c_62 => ?_) (fun c_62 => ?_)
    · have hE := hE.trans (if_pos c_62)
      refine lv_aload_n hx hb dX6_take_178 rfl (lv_at hl 0 rfl) ?_
      refine lv_aload_n hx hb dX6_take_179 rfl (lv_at hl 2 rfl) ?_
      refine lv_aload_n hx hb dX6_take_180 rfl (lv_at hl 1 rfl) ?_
      obtain ⟨k_63, hk_63⟩ := va_pl_get (X := [(r0, rdC ov (va_rf ol) r1 r2 r3 r4 r5), (r1, chC cf cl zn 0), (r2, chC cf cl zn 1), (r3, chC cf cl zn 2), (r4, chC cf cl zn 3), (h0, rcC n0 rv w0 h1), (h1, mkC h2), (h2, .inl (cJ, 4, .inr (.inl f)))]) (f := pf cJ kd pi bd af bo) m_q
      refine va_getN (D := D) (ci := 5) (v := .int (pi 3 q)) (C := RX5) (T := TX5) (N := 7) hx hb ha inlX5 hown hK hP k_63 (hk_63.trans (congrArg (fun z => some (q, z)) (pf_p k_q))) rfl 3 (by decide) (va_Nw.use rfl (hN.f RX6 61 "CongestionBench$Parcel" "special" "Z" "CongestionBench" (by decide +kernel))) (fun _ h9 => h9) rfl dX6_take_181 ?_
      refine lv_topi (fun x_64 ex_64 => ?_)
      have hE := bd_at ex_64 hE
      refine lv_iload_n hx hb dX6_take_184 rfl (lv_at hl 3 rfl) ?_
      have hPc := hP.part (X := [(r0, rdC ov (va_rf ol) r1 r2 r3 r4 r5), (r1, chC cf cl zn 0), (r2, chC cf cl zn 1), (r3, chC cf cl zn 2), (r4, chC cf cl zn 3), (h0, rcC n0 rv w0 h1), (h1, mkC h2), (h2, .inl (cJ, 4, .inr (.inl f)))]) (cx := [(r0, rdC ov (va_rf ol) r1 r2 r3 r4 r5), (r1, chC cf cl zn 0), (r2, chC cf cl zn 1), (r3, chC cf cl zn 2), (r4, chC cf cl zn 3), (h0, rcC n0 rv w0 h1), (h1, mkC h2), (h2, .inl (cJ, 4, .inr (.inl f)))]) (pl := va_pl L (pf cJ kd pi bd af bo)) [0, 1, 2, 3, 4, 5, 6, 7] rfl
      have hDc := hD.part (X := [(r0, rdC ov (va_rf ol) r1 r2 r3 r4 r5), (r1, chC cf cl zn 0), (r2, chC cf cl zn 1), (r3, chC cf cl zn 2), (r4, chC cf cl zn 3), (h0, rcC n0 rv w0 h1), (h1, mkC h2), (h2, .inl (cJ, 4, .inr (.inl f)))]) (cx := [(r0, rdC ov (va_rf ol) r1 r2 r3 r4 r5), (r1, chC cf cl zn 0), (r2, chC cf cl zn 1), (r3, chC cf cl zn 2), (r4, chC cf cl zn 3), (h0, rcC n0 rv w0 h1), (h1, mkC h2), (h2, .inl (cJ, 4, .inr (.inl f)))]) (pl := va_pl L (pf cJ kd pi bd af bo)) [0, 1, 2, 3, 4, 5, 6, 7] (by decide) rfl
      have hFc := va_freeP (X := [(r0, rdC ov (va_rf ol) r1 r2 r3 r4 r5), (r1, chC cf cl zn 0), (r2, chC cf cl zn 1), (r3, chC cf cl zn 2), (r4, chC cf cl zn 3), (h0, rcC n0 rv w0 h1), (h1, mkC h2), (h2, .inl (cJ, 4, .inr (.inl f)))]) (cx := [(r0, rdC ov (va_rf ol) r1 r2 r3 r4 r5), (r1, chC cf cl zn 0), (r2, chC cf cl zn 1), (r3, chC cf cl zn 2), (r4, chC cf cl zn 3), (h0, rcC n0 rv w0 h1), (h1, mkC h2), (h2, .inl (cJ, 4, .inr (.inl f)))]) (pl := va_pl L (pf cJ kd pi bd af bo)) hD hS hA [0, 1, 2, 3, 4, 5, 6, 7] rfl
      refine W.know2 (fun hka hkb => ?_)
      have hg0 : gr s.heap _ 0 := ⟨hka, hkb⟩
      have hle0 := hS.1
      refine va_callv (va_runV (As := [.ref r0, .int x_64, .int n1]) (rest := []) ⟨hx, hb, hml, hown, ha⟩ (s_answer l D cI cJ cZ cO _ r0 r1 r2 r3 r4 r5 ov ol cf cl zn xl tag L kd pi bd af bo go gq gw ga h0 h1 h2 n0 w0 rv f x_64 n1 (by rw [ex_64]; exact (hPB q m_q k_q).2.2) hR hPB hZ hG hJ hS2) (cwV 3 ha (gaV kl_X6_64 km_X6_answer ks_X6_answer kz_X6 kd_X6_answer) rfl rfl rfl (by decide +kernel) ⟨Nat.le_of_ble_eq_true rfl, Nat.le_of_ble_eq_true rfl⟩) ⟨pw_blindh, va_recv hK hPc (ci := 6) (q0 := 5) rfl rfl, fun U hU hW => ⟨rfl, pw_starth hU hW hPc hK hDc hN⟩⟩ rfl rfl hl.1 rfl (lv_room (Nat.le_of_ble_eq_true rfl)) dX6_take_185 ⟨Nat.le_of_ble_eq_true rfl, Nat.le_of_ble_eq_true rfl⟩) hS (fun q _ h => hFc q h) hFc (fun u t H1 locs ht hvm hw hB hz1 hk1 hS => ?_)
      obtain ⟨rv, cf, cl, zn, xl, tag, f, L, kd, pi, bd, af, bo, q_79, ga, ⟨hf_81, ⟨hG, hJ⟩, hX0, hX1, hX2⟩, hP1, hK1, hD1⟩ := hB
      have hE := bd_at rfl hE
      have hE := bd_at hX0 hE
      have hE := bd_at hX1 hE
      have hE := bd_at hX2 hE
      rw [ht] at hP1
      rw [ht] at hf_81
      obtain ⟨hP, hD⟩ := va_joinP (wr := []) (rx := [(r0, rdC ov (va_rf ol) r1 r2 r3 r4 r5), (r1, chC cf cl zn 0), (r2, chC cf cl zn 1), (r3, chC cf cl zn 2), (r4, chC cf cl zn 3), (h0, rcC n0 rv w0 h1), (h1, mkC h2), (h2, .inl (cJ, 4, .inr (.inl f)))]) (pl1 := va_pl L (pf cJ kd pi bd af bo)) hP hD [0, 1, 2, 3, 4, 5, 6, 7] [] rfl rfl (by decide) (by decide) hk1 hFc hP1 hD1
      generalize H1 = H at hP hS hf_81 ⊢
      have hP : va_P D vwCl ([(r0, rdC ov (va_rf ol) r1 r2 r3 r4 r5), (r1, chC cf cl zn 0), (r2, chC cf cl zn 1), (r3, chC cf cl zn 2), (r4, chC cf cl zn 3), (h0, rcC n0 rv w0 h1), (h1, mkC h2), (h2, .inl (cJ, 4, .inr (.inl f)))] ++ va_pl L (pf cJ kd pi bd af bo)) H := hP
      have hD : va_D A ([(r0, rdC ov (va_rf ol) r1 r2 r3 r4 r5), (r1, chC cf cl zn 0), (r2, chC cf cl zn 1), (r3, chC cf cl zn 2), (r4, chC cf cl zn 3), (h0, rcC n0 rv w0 h1), (h1, mkC h2), (h2, .inl (cJ, 4, .inr (.inl f)))] ++ va_pl L (pf cJ kd pi bd af bo)) := hD
      refine W.widen (k := 2) (n := 11) (Nat.le_of_ble_eq_true rfl) (Nat.le_of_ble_eq_true rfl) ?_
      have hR := hf_81.1
      have hPB := hf_81.2.1
      have hZ := hf_81.2.2.1
      have hg0 := gr_trans hle0 hg0 hf_81.2.2.2.1
      have hb1 := hf_81.2.2.2.2.1
      have hQ := QQ_trans hQ hf_81.2.2.2.2.2
      rw [hQP]
      have hP9 : va_P D vwCl ([(r0, rdC ov (va_rf ol) r1 r2 r3 r4 r5), (r1, chC cf cl zn 0), (r2, chC cf cl zn 1), (r3, chC cf cl zn 2), (r4, chC cf cl zn 3), (h0, rcC n0 rv w0 h1), (h1, mkC h2), (h2, .inl (cJ, 4, .inr (.inl f)))] ++ va_pl L (pf cJ kd pi bd af bo)) _ := hP
      have hD9 : va_D A ([(r0, rdC ov (va_rf ol) r1 r2 r3 r4 r5), (r1, chC cf cl zn 0), (r2, chC cf cl zn 1), (r3, chC cf cl zn 2), (r4, chC cf cl zn 3), (h0, rcC n0 rv w0 h1), (h1, mkC h2), (h2, .inl (cJ, 4, .inr (.inl f)))] ++ va_pl L (pf cJ kd pi bd af bo)) := hD
      exact W.vret hx hb hr (fun t ht hW => ⟨⟨(), rfl, trivial, ⟨rv, cf, cl, zn, xl, tag, f, L, kd, pi, bd, af, bo, (0 + q_79), ga, [n1 + ov 3], ⟨⟨hR, hPB, hZ, by rw [ht]; exact hg0, by omega, Or.inr rfl, hQ⟩, ⟨hG, hJ⟩, (by rw [← hRES, hE]), (by rw [← hRES, hE]), (by rw [← hRES, hE])⟩, by rw [ht]; exact hP9, va_K.moved hW.alike hK, hD9⟩⟩, hS.F ht⟩) hS.2.2 dX6_take_188
    · have hE := hE.trans (if_neg c_62)
      refine lv_aload_n hx hb dX6_take_167 rfl (lv_at hl 0 rfl) ?_
      refine lv_iload_n hx hb dX6_take_168 rfl (lv_at hl 3 rfl) ?_
      refine lv_bipush (v := 100) hx hb dX6_take_169 (by decide) ?_
      refine lv_iadd hx hb dX6_take_171 ?_
      refine lv_topi (fun x_82 ex_82 => ?_)
      have hE := bd_at ex_82 hE
      refine va_put (D := D) (ci := 6) (v := .int x_82) (ty := .int) (C := RX6) (T := TX6) (N := 11) hx hb ha inlX6 tyX6 tyX6_ok nmX6 hown hK hP hD hS 5 rfl rfl 9 (by decide) (ha _ kf_X6_22) (fun _ h9 => h9) rfl (by decide +kernel) rfl rfl (Nat.le_of_ble_eq_true rfl) dX6_take_172 (fun H locs hP hD hS => ?_)
      have hP : va_P D vwCl ([(r0, rdC ov (va_rf ol) r1 r2 r3 r4 r5), (r1, chC cf cl zn 0), (r2, chC cf cl zn 1), (r3, chC cf cl zn 2), (r4, chC cf cl zn 3), (h0, rcC n0 (upd rv 9 x_82) w0 h1), (h1, mkC h2), (h2, .inl (cJ, 4, .inr (.inl f)))] ++ va_pl L (pf cJ kd pi bd af bo)) H := hP
      have hD : va_D A ([(r0, rdC ov (va_rf ol) r1 r2 r3 r4 r5), (r1, chC cf cl zn 0), (r2, chC cf cl zn 1), (r3, chC cf cl zn 2), (r4, chC cf cl zn 3), (h0, rcC n0 (upd rv 9 x_82) w0 h1), (h1, mkC h2), (h2, .inl (cJ, 4, .inr (.inl f)))] ++ va_pl L (pf cJ kd pi bd af bo)) := hD
      generalize hg_83 : upd rv 9 x_82 = rv at hP hD
      have hE := bs_at hg_83 hE
      refine lv_goto (tgt := 188) hx hb dX6_take_175 (by decide) ?_
      rw [hQP]
      refine W.know2 (fun hk1 hk2 => ?_)
      have hg0 : gr s.heap _ 0 := ⟨hk1, hk2⟩
      refine W.widen (k := 2) (n := 11) (Nat.le_of_ble_eq_true rfl) (Nat.le_of_ble_eq_true rfl) ?_
      have hP9 : va_P D vwCl ([(r0, rdC ov (va_rf ol) r1 r2 r3 r4 r5), (r1, chC cf cl zn 0), (r2, chC cf cl zn 1), (r3, chC cf cl zn 2), (r4, chC cf cl zn 3), (h0, rcC n0 rv w0 h1), (h1, mkC h2), (h2, .inl (cJ, 4, .inr (.inl f)))] ++ va_pl L (pf cJ kd pi bd af bo)) _ := hP
      have hD9 : va_D A ([(r0, rdC ov (va_rf ol) r1 r2 r3 r4 r5), (r1, chC cf cl zn 0), (r2, chC cf cl zn 1), (r3, chC cf cl zn 2), (r4, chC cf cl zn 3), (h0, rcC n0 rv w0 h1), (h1, mkC h2), (h2, .inl (cJ, 4, .inr (.inl f)))] ++ va_pl L (pf cJ kd pi bd af bo)) := hD
      exact W.vret hx hb hr (fun t ht hW => ⟨⟨(), rfl, trivial, ⟨rv, cf, cl, zn, xl, tag, f, L, kd, pi, bd, af, bo, 0, ga, [], ⟨⟨hR, hPB, hZ, by rw [ht]; exact hg0, by omega, Or.inl rfl, hQ⟩, ⟨hG, hJ⟩, (by rw [← hRES, hE]), (by rw [← hRES, hE]), (by rw [← hRES, hE])⟩, by rw [ht]; exact hP9, va_K.moved hW.alike hK, hD9⟩⟩, hS.F ht⟩) hS.2.2 dX6_take_188
  have J_152 : ∀ (rv : Nat → Int32) (f : Nat → Int64) (H : Heap) (locs : List Loc), va_P D vwCl ([(r0, rdC ov (va_rf ol) r1 r2 r3 r4 r5), (r1, chC cf cl zn 0), (r2, chC cf cl zn 1), (r3, chC cf cl zn 2), (r4, chC cf cl zn 3), (h0, rcC n0 rv w0 h1), (h1, mkC h2), (h2, .inl (cJ, 4, .inr (.inl f)))] ++ va_pl L (pf cJ kd pi bd af bo)) H → va_D A ([(r0, rdC ov (va_rf ol) r1 r2 r3 r4 r5), (r1, chC cf cl zn 0), (r2, chC cf cl zn 1), (r3, chC cf cl zn 2), (r4, chC cf cl zn 3), (h0, rcC n0 rv w0 h1), (h1, mkC h2), (h2, .inl (cJ, 4, .inr (.inl f)))] ++ va_pl L (pf cJ kd pi bd af bo)) → va_S A s.heap H locs → ∀ (i4 : Int32) (i5 : Int32) (i6 : Int32) (i7 : Int32) (ls : Array Slot), lv_has ls 8 [(0, .ref h0), (1, .ref q), (2, .ref r0), (3, .int n1), (4, .int i4), (5, .int i5), (6, .int i6), (7, .int i7)] → RES = xc_take_152 ov ga n0 w0 (cs pi q) n1 rv f i4 i5 i6 i7 → W p l e ({ frames := 4, cells := 2, slots := 11, locals := 90 }) s m #[(.ref h0 : Value), (.ref q : Value), (.ref r0 : Value), (.int n1 : Value)] below meth c H locs 0 0 QP (F0 m 152 ls []) := by
    intro rv f H locs hP hD hS i4 i5 i6 i7 ls hl hE
    unfold xc_take_152 at hE
    refine lv_aload_n hx hb dX6_take_152 rfl (lv_at hl 0 rfl) ?_
    refine lv_dup hx hb dX6_take_153 rfl ?_
    refine va_get (D := D) (ci := 6) (v := .int (rv 8)) (C := RX6) (T := TX6) (N := 11) hx hb ha inlX6 hown hK hP 5 rfl rfl 8 (by decide) (ha _ kf_X6_58) (fun _ h9 => h9) rfl dX6_take_154 ?_
    refine lv_topi (fun x_84 ex_84 => ?_)
    have hE := bd_at ex_84 hE
    refine lv_iconst (v := 1) hx hb dX6_take_157 (by decide) ?_
    refine lv_iadd hx hb dX6_take_158 ?_
    refine lv_topi (fun x_85 ex_85 => ?_)
    have hE := bd_at ex_85 hE
    refine va_put (D := D) (ci := 6) (v := .int x_85) (ty := .int) (C := RX6) (T := TX6) (N := 11) hx hb ha inlX6 tyX6 tyX6_ok nmX6 hown hK hP hD hS 5 rfl rfl 8 (by decide) (ha _ kf_X6_58) (fun _ h9 => h9) rfl (by decide +kernel) rfl rfl (Nat.le_of_ble_eq_true rfl) dX6_take_159 (fun H locs hP hD hS => ?_)
    have hP : va_P D vwCl ([(r0, rdC ov (va_rf ol) r1 r2 r3 r4 r5), (r1, chC cf cl zn 0), (r2, chC cf cl zn 1), (r3, chC cf cl zn 2), (r4, chC cf cl zn 3), (h0, rcC n0 (upd rv 8 x_85) w0 h1), (h1, mkC h2), (h2, .inl (cJ, 4, .inr (.inl f)))] ++ va_pl L (pf cJ kd pi bd af bo)) H := hP
    have hD : va_D A ([(r0, rdC ov (va_rf ol) r1 r2 r3 r4 r5), (r1, chC cf cl zn 0), (r2, chC cf cl zn 1), (r3, chC cf cl zn 2), (r4, chC cf cl zn 3), (h0, rcC n0 (upd rv 8 x_85) w0 h1), (h1, mkC h2), (h2, .inl (cJ, 4, .inr (.inl f)))] ++ va_pl L (pf cJ kd pi bd af bo)) := hD
    generalize hg_86 : upd rv 8 x_85 = rv at hP hD
    have hE := bs_at hg_86 hE
    exact J_162 rv f _ _ hP hD hS i4 i5 i6 i7 _ (lv_sub hl [0, 1, 2, 3, 4, 5, 6, 7] rfl) hE
  have J_89 : ∀ (rv : Nat → Int32) (f : Nat → Int64) (H : Heap) (locs : List Loc), va_P D vwCl ([(r0, rdC ov (va_rf ol) r1 r2 r3 r4 r5), (r1, chC cf cl zn 0), (r2, chC cf cl zn 1), (r3, chC cf cl zn 2), (r4, chC cf cl zn 3), (h0, rcC n0 rv w0 h1), (h1, mkC h2), (h2, .inl (cJ, 4, .inr (.inl f)))] ++ va_pl L (pf cJ kd pi bd af bo)) H → va_D A ([(r0, rdC ov (va_rf ol) r1 r2 r3 r4 r5), (r1, chC cf cl zn 0), (r2, chC cf cl zn 1), (r3, chC cf cl zn 2), (r4, chC cf cl zn 3), (h0, rcC n0 rv w0 h1), (h1, mkC h2), (h2, .inl (cJ, 4, .inr (.inl f)))] ++ va_pl L (pf cJ kd pi bd af bo)) → va_S A s.heap H locs → ∀ (i4 : Int32) (i5 : Int32) (i6 : Int32) (s0 : Int32) (ls : Array Slot), lv_has ls 8 [(0, .ref h0), (1, .ref q), (2, .ref r0), (3, .int n1), (4, .int i4), (5, .int i5), (6, .int i6)] → RES = xc_take_89 ov ga n0 w0 (cs pi q) n1 rv f i4 i5 i6 s0 → W p l e ({ frames := 4, cells := 2, slots := 11, locals := 90 }) s m #[(.ref h0 : Value), (.ref q : Value), (.ref r0 : Value), (.int n1 : Value)] below meth c H locs 0 0 QP (F0 m 89 ls [.int s0]) := by
    intro rv f H locs hP hD hS i4 i5 i6 s0 ls hl hE
    unfold xc_take_89 at hE
    refine lv_istore (lv' := [(7, .int s0), (0, .ref h0), (1, .ref q), (2, .ref r0), (3, .int n1), (4, .int i4), (5, .int i5), (6, .int i6)]) hx hb dX6_take_89 hl (by decide) rfl (fun ls hl => ?_)
    refine lv_aload_n hx hb dX6_take_91 rfl (lv_at hl 1 rfl) ?_
    refine lv_dup hx hb dX6_take_92 rfl ?_
    refine va_get (D := D) (ci := 6) (v := .int (rv 7)) (C := RX6) (T := TX6) (N := 11) hx hb ha inlX6 hown hK hP 5 rfl rfl 7 (by decide) (ha _ kf_X6_44) (fun _ h9 => h9) rfl dX6_take_93 ?_
    refine lv_topi (fun x_87 ex_87 => ?_)
    have hE := bd_at ex_87 hE
    refine lv_iconst (v := 1) hx hb dX6_take_96 (by decide) ?_
    refine lv_iadd hx hb dX6_take_97 ?_
    refine lv_topi (fun x_88 ex_88 => ?_)
    have hE := bd_at ex_88 hE
    refine va_put (D := D) (ci := 6) (v := .int x_88) (ty := .int) (C := RX6) (T := TX6) (N := 11) hx hb ha inlX6 tyX6 tyX6_ok nmX6 hown hK hP hD hS 5 rfl rfl 7 (by decide) (ha _ kf_X6_44) (fun _ h9 => h9) rfl (by decide +kernel) rfl rfl (Nat.le_of_ble_eq_true rfl) dX6_take_98 (fun H locs hP hD hS => ?_)
    have hP : va_P D vwCl ([(r0, rdC ov (va_rf ol) r1 r2 r3 r4 r5), (r1, chC cf cl zn 0), (r2, chC cf cl zn 1), (r3, chC cf cl zn 2), (r4, chC cf cl zn 3), (h0, rcC n0 (upd rv 7 x_88) w0 h1), (h1, mkC h2), (h2, .inl (cJ, 4, .inr (.inl f)))] ++ va_pl L (pf cJ kd pi bd af bo)) H := hP
    have hD : va_D A ([(r0, rdC ov (va_rf ol) r1 r2 r3 r4 r5), (r1, chC cf cl zn 0), (r2, chC cf cl zn 1), (r3, chC cf cl zn 2), (r4, chC cf cl zn 3), (h0, rcC n0 (upd rv 7 x_88) w0 h1), (h1, mkC h2), (h2, .inl (cJ, 4, .inr (.inl f)))] ++ va_pl L (pf cJ kd pi bd af bo)) := hD
    generalize hg_89 : upd rv 7 x_88 = rv at hP hD
    have hE := bs_at hg_89 hE
    refine lv_iload hx hb dX6_take_101 (lv_at hl 7 rfl) ?_
    refine lv_if_eq (tgt := 113) hx hb dX6_take_103 (by decide) (fun c_90 => ?_) (fun c_90 => ?_)
    · have hE := hE.trans (if_pos c_90)
      refine lv_iload hx hb dX6_take_113 (lv_at hl 6 rfl) ?_
      refine lv_if_eq (tgt := 152) hx hb dX6_take_115 (by decide) (fun c_91 => ?_) (fun c_91 => ?_)
      · have hE := hE.trans (if_pos c_91)
        exact J_152 rv f _ _ hP hD hS i4 i5 i6 s0 _ (lv_sub hl [1, 2, 3, 4, 5, 6, 7, 0] rfl) hE
      · have hE := hE.trans (if_neg c_91)
        refine lv_aload_n hx hb dX6_take_118 rfl (lv_at hl 1 rfl) ?_
        refine va_get (D := D) (ci := 6) (v := .ref h1) (C := RX6) (T := TX6) (N := 11) hx hb ha inlX6 hown hK hP 5 rfl rfl 4 (by decide) (ha _ kf_X6_18) (fun _ h9 => h9) rfl dX6_take_119 ?_
        refine lv_iload hx hb dX6_take_122 (lv_at hl 5 rfl) ?_
        have hPc := hP.sub (ws' := [(h1, mkC h2), (h2, .inl (cJ, 4, .inr (.inl f)))]) [6, 7] rfl
        have hDc := hD.sub (ws' := [(h1, mkC h2), (h2, .inl (cJ, 4, .inr (.inl f)))]) [6, 7] (by decide) rfl
        have hFc := va_free (wc := [(h1, mkC h2), (h2, .inl (cJ, 4, .inr (.inl f)))]) hD hS hA [6, 7] rfl
        refine va_calli (va_runV (As := [.int i4]) (rest := []) ⟨hx, hb, hml, hown, ha⟩ (s_has l D cI cJ cZ cO _ h1 h2 f i4) (cwV 1 ha (gaV kl_X6_50 km_X4_has ks_X4_has kz_X4 kd_X4_has) rfl rfl rfl (by decide +kernel) ⟨Nat.le_of_ble_eq_true rfl, Nat.le_of_ble_eq_true rfl⟩) ⟨pw_blind, va_recv hK hPc (ci := 4) (q0 := 0) rfl rfl, fun U hU hW => ⟨rfl, pw_start hU hW hPc hK hDc hN⟩⟩ rfl rfl hl.1 rfl (lv_room (Nat.le_of_ble_eq_true rfl)) dX6_take_124 ⟨Nat.le_of_ble_eq_true rfl, Nat.le_of_ble_eq_true rfl⟩) hS (fun q _ h => hFc q h) hFc (fun r_92 u t H1 locs ht hvm hw hB hz1 hk1 hS => ?_)
        obtain ⟨f, hX0, hP1, hK1, hD1⟩ := hB
        have hE := bd_at rfl hE
        have hE := bd_at hX0 hE
        have hE := bd_at hw.2 hE
        rw [ht] at hP1
        obtain ⟨hP, hD⟩ := va_joinQ (wr := [(r0, rdC ov (va_rf ol) r1 r2 r3 r4 r5), (r1, chC cf cl zn 0), (r2, chC cf cl zn 1), (r3, chC cf cl zn 2), (r4, chC cf cl zn 3), (h0, rcC n0 rv w0 h1)]) (w1 := [(h1, mkC h2), (h2, .inl (cJ, 4, .inr (.inl f)))]) hP hD [6, 7] [0, 1, 2, 3, 4, 5] rfl rfl (by decide) (by decide) hk1 hFc hP1 hD1
        generalize H1 = H at hP hS ⊢
        have hP : va_P D vwCl ([(r0, rdC ov (va_rf ol) r1 r2 r3 r4 r5), (r1, chC cf cl zn 0), (r2, chC cf cl zn 1), (r3, chC cf cl zn 2), (r4, chC cf cl zn 3), (h0, rcC n0 rv w0 h1), (h1, mkC h2), (h2, .inl (cJ, 4, .inr (.inl f)))] ++ va_pl L (pf cJ kd pi bd af bo)) H := hP
        have hD : va_D A ([(r0, rdC ov (va_rf ol) r1 r2 r3 r4 r5), (r1, chC cf cl zn 0), (r2, chC cf cl zn 1), (r3, chC cf cl zn 2), (r4, chC cf cl zn 3), (h0, rcC n0 rv w0 h1), (h1, mkC h2), (h2, .inl (cJ, 4, .inr (.inl f)))] ++ va_pl L (pf cJ kd pi bd af bo)) := hD
        refine W.widen (k := 0) (n := 0) (Nat.le_of_ble_eq_true rfl) (Nat.le_of_ble_eq_true rfl) ?_
        have hr_92 := hw.1
        refine lv_if_ne (tgt := 152) hx hb dX6_take_127 (by decide) (fun c_95 => ?_) (fun c_95 => ?_)
        · have hE := hE.trans (if_neg c_95)
          exact J_152 rv f _ _ hP hD hS i4 i5 i6 s0 _ (lv_sub hl [1, 2, 3, 4, 5, 6, 7, 0] rfl) hE
        · have hE := hE.trans (if_pos c_95)
          refine lv_aload_n hx hb dX6_take_130 rfl (lv_at hl 1 rfl) ?_
          refine va_get (D := D) (ci := 6) (v := .ref h1) (C := RX6) (T := TX6) (N := 11) hx hb ha inlX6 hown hK hP 5 rfl rfl 4 (by decide) (ha _ kf_X6_18) (fun _ h9 => h9) rfl dX6_take_131 ?_
          refine lv_iload hx hb dX6_take_134 (lv_at hl 5 rfl) ?_
          have hPc := hP.sub (ws' := [(h1, mkC h2), (h2, .inl (cJ, 4, .inr (.inl f)))]) [6, 7] rfl
          have hDc := hD.sub (ws' := [(h1, mkC h2), (h2, .inl (cJ, 4, .inr (.inl f)))]) [6, 7] (by decide) rfl
          have hFc := va_free (wc := [(h1, mkC h2), (h2, .inl (cJ, 4, .inr (.inl f)))]) hD hS hA [6, 7] rfl
          refine va_callv (va_runV (As := [.int i4]) (rest := []) ⟨hx, hb, hml, hown, ha⟩ (s_put l D cI cJ cZ cO _ h1 h2 f i4) (cwV 1 ha (gaV kl_X6_54 km_X4_put ks_X4_put kz_X4 kd_X4_put) rfl rfl rfl (by decide +kernel) ⟨Nat.le_of_ble_eq_true rfl, Nat.le_of_ble_eq_true rfl⟩) ⟨pw_blind, va_recv hK hPc (ci := 4) (q0 := 0) rfl rfl, fun U hU hW => ⟨rfl, pw_start hU hW hPc hK hDc hN⟩⟩ rfl rfl hl.1 rfl (lv_room (Nat.le_of_ble_eq_true rfl)) dX6_take_136 ⟨Nat.le_of_ble_eq_true rfl, Nat.le_of_ble_eq_true rfl⟩) hS (fun q _ h => hFc q h) hFc (fun u t H1 locs ht hvm hw hB hz1 hk1 hS => ?_)
          obtain ⟨f, hX0, hP1, hK1, hD1⟩ := hB
          have hE := bd_at rfl hE
          have hE := bd_at hX0 hE
          rw [ht] at hP1
          obtain ⟨hP, hD⟩ := va_joinQ (wr := [(r0, rdC ov (va_rf ol) r1 r2 r3 r4 r5), (r1, chC cf cl zn 0), (r2, chC cf cl zn 1), (r3, chC cf cl zn 2), (r4, chC cf cl zn 3), (h0, rcC n0 rv w0 h1)]) (w1 := [(h1, mkC h2), (h2, .inl (cJ, 4, .inr (.inl f)))]) hP hD [6, 7] [0, 1, 2, 3, 4, 5] rfl rfl (by decide) (by decide) hk1 hFc hP1 hD1
          generalize H1 = H at hP hS ⊢
          have hP : va_P D vwCl ([(r0, rdC ov (va_rf ol) r1 r2 r3 r4 r5), (r1, chC cf cl zn 0), (r2, chC cf cl zn 1), (r3, chC cf cl zn 2), (r4, chC cf cl zn 3), (h0, rcC n0 rv w0 h1), (h1, mkC h2), (h2, .inl (cJ, 4, .inr (.inl f)))] ++ va_pl L (pf cJ kd pi bd af bo)) H := hP
          have hD : va_D A ([(r0, rdC ov (va_rf ol) r1 r2 r3 r4 r5), (r1, chC cf cl zn 0), (r2, chC cf cl zn 1), (r3, chC cf cl zn 2), (r4, chC cf cl zn 3), (h0, rcC n0 rv w0 h1), (h1, mkC h2), (h2, .inl (cJ, 4, .inr (.inl f)))] ++ va_pl L (pf cJ kd pi bd af bo)) := hD
          refine W.widen (k := 0) (n := 0) (Nat.le_of_ble_eq_true rfl) (Nat.le_of_ble_eq_true rfl) ?_
          refine lv_aload_n hx hb dX6_take_139 rfl (lv_at hl 1 rfl) ?_
          refine lv_dup hx hb dX6_take_140 rfl ?_
          refine va_get (D := D) (ci := 6) (v := .int (rv 5)) (C := RX6) (T := TX6) (N := 11) hx hb ha inlX6 hown hK hP 5 rfl rfl 5 (by decide) (ha _ kf_X6_41) (fun _ h9 => h9) rfl dX6_take_141 ?_
          refine lv_topi (fun x_99 ex_99 => ?_)
          have hE := bd_at ex_99 hE
          refine lv_iconst (v := 1) hx hb dX6_take_144 (by decide) ?_
          refine lv_iadd hx hb dX6_take_145 ?_
          refine lv_topi (fun x_100 ex_100 => ?_)
          have hE := bd_at ex_100 hE
          refine va_put (D := D) (ci := 6) (v := .int x_100) (ty := .int) (C := RX6) (T := TX6) (N := 11) hx hb ha inlX6 tyX6 tyX6_ok nmX6 hown hK hP hD hS 5 rfl rfl 5 (by decide) (ha _ kf_X6_41) (fun _ h9 => h9) rfl (by decide +kernel) rfl rfl (Nat.le_of_ble_eq_true rfl) dX6_take_146 (fun H locs hP hD hS => ?_)
          have hP : va_P D vwCl ([(r0, rdC ov (va_rf ol) r1 r2 r3 r4 r5), (r1, chC cf cl zn 0), (r2, chC cf cl zn 1), (r3, chC cf cl zn 2), (r4, chC cf cl zn 3), (h0, rcC n0 (upd rv 5 x_100) w0 h1), (h1, mkC h2), (h2, .inl (cJ, 4, .inr (.inl f)))] ++ va_pl L (pf cJ kd pi bd af bo)) H := hP
          have hD : va_D A ([(r0, rdC ov (va_rf ol) r1 r2 r3 r4 r5), (r1, chC cf cl zn 0), (r2, chC cf cl zn 1), (r3, chC cf cl zn 2), (r4, chC cf cl zn 3), (h0, rcC n0 (upd rv 5 x_100) w0 h1), (h1, mkC h2), (h2, .inl (cJ, 4, .inr (.inl f)))] ++ va_pl L (pf cJ kd pi bd af bo)) := hD
          generalize hg_101 : upd rv 5 x_100 = rv at hP hD
          have hE := bs_at hg_101 hE
          refine lv_goto (tgt := 162) hx hb dX6_take_149 (by decide) ?_
          exact J_162 rv f _ _ hP hD hS i4 i5 i6 s0 _ (lv_sub hl [1, 2, 3, 4, 5, 6, 7, 0] rfl) hE
    · have hE := hE.trans (if_neg c_90)
      refine lv_aload_n hx hb dX6_take_106 rfl (lv_at hl 1 rfl) ?_
      have hPc := hP.sub (ws' := [(h0, rcC n0 rv w0 h1), (h1, mkC h2), (h2, .inl (cJ, 4, .inr (.inl f)))]) [5, 6, 7] rfl
      have hDc := hD.sub (ws' := [(h0, rcC n0 rv w0 h1), (h1, mkC h2), (h2, .inl (cJ, 4, .inr (.inl f)))]) [5, 6, 7] (by decide) rfl
      have hFc := va_free (wc := [(h0, rcC n0 rv w0 h1), (h1, mkC h2), (h2, .inl (cJ, 4, .inr (.inl f)))]) hD hS hA [5, 6, 7] rfl
      refine va_callv (va_runV (As := []) (rest := []) ⟨hx, hb, hml, hown, ha⟩ (s_rgoOn l D cI cJ cZ cO _ h0 h1 h2 n0 w0 rv f) (cwV 0 ha (gaV kl_X6_47 km_X6_goOn ks_X6_goOn kz_X6 kd_X6_goOn) rfl rfl rfl (by decide +kernel) ⟨Nat.le_of_ble_eq_true rfl, Nat.le_of_ble_eq_true rfl⟩) ⟨pw_blind, va_recv hK hPc (ci := 6) (q0 := 0) rfl rfl, fun U hU hW => ⟨rfl, pw_start hU hW hPc hK hDc hN⟩⟩ rfl rfl hl.1 rfl (lv_room (Nat.le_of_ble_eq_true rfl)) dX6_take_107 ⟨Nat.le_of_ble_eq_true rfl, Nat.le_of_ble_eq_true rfl⟩) hS (fun q _ h => hFc q h) hFc (fun u t H1 locs ht hvm hw hB hz1 hk1 hS => ?_)
      obtain ⟨rv, f, ⟨hX0, hX1⟩, hP1, hK1, hD1⟩ := hB
      have hE := bd_at rfl hE
      have hE := bd_at hX0 hE
      have hE := bd_at hX1 hE
      rw [ht] at hP1
      obtain ⟨hP, hD⟩ := va_joinQ (wr := [(r0, rdC ov (va_rf ol) r1 r2 r3 r4 r5), (r1, chC cf cl zn 0), (r2, chC cf cl zn 1), (r3, chC cf cl zn 2), (r4, chC cf cl zn 3)]) (w1 := [(h0, rcC n0 rv w0 h1), (h1, mkC h2), (h2, .inl (cJ, 4, .inr (.inl f)))]) hP hD [5, 6, 7] [0, 1, 2, 3, 4] rfl rfl (by decide) (by decide) hk1 hFc hP1 hD1
      generalize H1 = H at hP hS ⊢
      have hP : va_P D vwCl ([(r0, rdC ov (va_rf ol) r1 r2 r3 r4 r5), (r1, chC cf cl zn 0), (r2, chC cf cl zn 1), (r3, chC cf cl zn 2), (r4, chC cf cl zn 3), (h0, rcC n0 rv w0 h1), (h1, mkC h2), (h2, .inl (cJ, 4, .inr (.inl f)))] ++ va_pl L (pf cJ kd pi bd af bo)) H := hP
      have hD : va_D A ([(r0, rdC ov (va_rf ol) r1 r2 r3 r4 r5), (r1, chC cf cl zn 0), (r2, chC cf cl zn 1), (r3, chC cf cl zn 2), (r4, chC cf cl zn 3), (h0, rcC n0 rv w0 h1), (h1, mkC h2), (h2, .inl (cJ, 4, .inr (.inl f)))] ++ va_pl L (pf cJ kd pi bd af bo)) := hD
      refine W.widen (k := 0) (n := 0) (Nat.le_of_ble_eq_true rfl) (Nat.le_of_ble_eq_true rfl) ?_
      refine lv_goto (tgt := 162) hx hb dX6_take_110 (by decide) ?_
      exact J_162 rv f _ _ hP hD hS i4 i5 i6 s0 _ (lv_sub hl [1, 2, 3, 4, 5, 6, 7, 0] rfl) hE
  have J_88 : ∀ (rv : Nat → Int32) (f : Nat → Int64) (H : Heap) (locs : List Loc), va_P D vwCl ([(r0, rdC ov (va_rf ol) r1 r2 r3 r4 r5), (r1, chC cf cl zn 0), (r2, chC cf cl zn 1), (r3, chC cf cl zn 2), (r4, chC cf cl zn 3), (h0, rcC n0 rv w0 h1), (h1, mkC h2), (h2, .inl (cJ, 4, .inr (.inl f)))] ++ va_pl L (pf cJ kd pi bd af bo)) H → va_D A ([(r0, rdC ov (va_rf ol) r1 r2 r3 r4 r5), (r1, chC cf cl zn 0), (r2, chC cf cl zn 1), (r3, chC cf cl zn 2), (r4, chC cf cl zn 3), (h0, rcC n0 rv w0 h1), (h1, mkC h2), (h2, .inl (cJ, 4, .inr (.inl f)))] ++ va_pl L (pf cJ kd pi bd af bo)) → va_S A s.heap H locs → ∀ (i4 : Int32) (i5 : Int32) (i6 : Int32) (ls : Array Slot), lv_has ls 8 [(0, .ref h0), (1, .ref q), (2, .ref r0), (3, .int n1), (4, .int i4), (5, .int i5), (6, .int i6)] → RES = xc_take_88 ov ga n0 w0 (cs pi q) n1 rv f i4 i5 i6 → W p l e ({ frames := 4, cells := 2, slots := 11, locals := 90 }) s m #[(.ref h0 : Value), (.ref q : Value), (.ref r0 : Value), (.int n1 : Value)] below meth c H locs 0 0 QP (F0 m 88 ls []) := by
    intro rv f H locs hP hD hS i4 i5 i6 ls hl hE
    unfold xc_take_88 at hE
    refine lv_iconst (v := 0) hx hb dX6_take_88 (by decide) ?_
    exact J_89 rv f _ _ hP hD hS i4 i5 i6 0 _ (lv_sub hl [0, 1, 2, 3, 4, 5, 6] rfl) hE
  have J_55 : ∀ (rv : Nat → Int32) (f : Nat → Int64) (H : Heap) (locs : List Loc), va_P D vwCl ([(r0, rdC ov (va_rf ol) r1 r2 r3 r4 r5), (r1, chC cf cl zn 0), (r2, chC cf cl zn 1), (r3, chC cf cl zn 2), (r4, chC cf cl zn 3), (h0, rcC n0 rv w0 h1), (h1, mkC h2), (h2, .inl (cJ, 4, .inr (.inl f)))] ++ va_pl L (pf cJ kd pi bd af bo)) H → va_D A ([(r0, rdC ov (va_rf ol) r1 r2 r3 r4 r5), (r1, chC cf cl zn 0), (r2, chC cf cl zn 1), (r3, chC cf cl zn 2), (r4, chC cf cl zn 3), (h0, rcC n0 rv w0 h1), (h1, mkC h2), (h2, .inl (cJ, 4, .inr (.inl f)))] ++ va_pl L (pf cJ kd pi bd af bo)) → va_S A s.heap H locs → ∀ (i4 : Int32) (i5 : Int32) (s0 : Int32) (ls : Array Slot), lv_has ls 8 [(0, .ref h0), (1, .ref q), (2, .ref r0), (3, .int n1), (4, .int i4), (5, .int i5)] → RES = xc_take_55 ov ga n0 w0 (cs pi q) n1 rv f i4 i5 s0 → W p l e ({ frames := 4, cells := 2, slots := 11, locals := 90 }) s m #[(.ref h0 : Value), (.ref q : Value), (.ref r0 : Value), (.int n1 : Value)] below meth c H locs 0 0 QP (F0 m 55 ls [.int s0]) := by
    intro rv f H locs hP hD hS i4 i5 s0 ls hl hE
    unfold xc_take_55 at hE
    refine lv_istore (lv' := [(6, .int s0), (0, .ref h0), (1, .ref q), (2, .ref r0), (3, .int n1), (4, .int i4), (5, .int i5)]) hx hb dX6_take_55 hl (by decide) rfl (fun ls hl => ?_)
    refine lv_aload_n hx hb dX6_take_57 rfl (lv_at hl 1 rfl) ?_
    refine va_get (D := D) (ci := 6) (v := .int (rv 1)) (C := RX6) (T := TX6) (N := 11) hx hb ha inlX6 hown hK hP 5 rfl rfl 1 (by decide) (ha _ kf_X6_28) (fun _ h9 => h9) rfl dX6_take_58 ?_
    refine lv_topi (fun x_106 ex_106 => ?_)
    have hE := bd_at ex_106 hE
    refine lv_if_eq (tgt := 88) hx hb dX6_take_61 (by decide) (fun c_107 => ?_) (fun c_107 => ?_)
    · have hE := hE.trans (if_pos c_107)
      exact J_88 rv f _ _ hP hD hS i4 i5 s0 _ (lv_sub hl [1, 2, 3, 4, 5, 6, 0] rfl) hE
    · have hE := hE.trans (if_neg c_107)
      refine lv_iload hx hb dX6_take_64 (lv_at hl 0 rfl) ?_
      refine lv_if_eq (tgt := 88) hx hb dX6_take_66 (by decide) (fun c_108 => ?_) (fun c_108 => ?_)
      · have hE := hE.trans (if_pos c_108)
        exact J_88 rv f _ _ hP hD hS i4 i5 s0 _ (lv_sub hl [1, 2, 3, 4, 5, 6, 0] rfl) hE
      · have hE := hE.trans (if_neg c_108)
        refine lv_aload_n hx hb dX6_take_69 rfl (lv_at hl 1 rfl) ?_
        refine va_get (D := D) (ci := 6) (v := .int (rv 5)) (C := RX6) (T := TX6) (N := 11) hx hb ha inlX6 hown hK hP 5 rfl rfl 5 (by decide) (ha _ kf_X6_41) (fun _ h9 => h9) rfl dX6_take_70 ?_
        refine lv_topi (fun x_109 ex_109 => ?_)
        have hE := bd_at ex_109 hE
        refine lv_if_ne (tgt := 88) hx hb dX6_take_73 (by decide) (fun c_110 => ?_) (fun c_110 => ?_)
        · have hE := hE.trans (if_neg c_110)
          exact J_88 rv f _ _ hP hD hS i4 i5 s0 _ (lv_sub hl [1, 2, 3, 4, 5, 6, 0] rfl) hE
        · have hE := hE.trans (if_pos c_110)
          refine lv_aload_n hx hb dX6_take_76 rfl (lv_at hl 1 rfl) ?_
          refine va_get (D := D) (ci := 6) (v := .int (rv 9)) (C := RX6) (T := TX6) (N := 11) hx hb ha inlX6 hown hK hP 5 rfl rfl 9 (by decide) (ha _ kf_X6_22) (fun _ h9 => h9) rfl dX6_take_77 ?_
          refine lv_topi (fun x_111 ex_111 => ?_)
          have hE := bd_at ex_111 hE
          refine lv_iconst (v := (-1)) hx hb dX6_take_80 (by decide) ?_
          refine lv_icmp_ne (tgt := 88) hx hb dX6_take_81 (by decide) (fun c_112 => ?_) (fun c_112 => ?_)
          · have hE := hE.trans (if_neg c_112)
            exact J_88 rv f _ _ hP hD hS i4 i5 s0 _ (lv_sub hl [1, 2, 3, 4, 5, 6, 0] rfl) hE
          · have hE := hE.trans (if_pos c_112)
            refine lv_iconst (v := 1) hx hb dX6_take_84 (by decide) ?_
            refine lv_goto (tgt := 89) hx hb dX6_take_85 (by decide) ?_
            exact J_89 rv f _ _ hP hD hS i4 i5 s0 1 _ (lv_sub hl [1, 2, 3, 4, 5, 6, 0] rfl) hE
  have J_54 : ∀ (rv : Nat → Int32) (f : Nat → Int64) (H : Heap) (locs : List Loc), va_P D vwCl ([(r0, rdC ov (va_rf ol) r1 r2 r3 r4 r5), (r1, chC cf cl zn 0), (r2, chC cf cl zn 1), (r3, chC cf cl zn 2), (r4, chC cf cl zn 3), (h0, rcC n0 rv w0 h1), (h1, mkC h2), (h2, .inl (cJ, 4, .inr (.inl f)))] ++ va_pl L (pf cJ kd pi bd af bo)) H → va_D A ([(r0, rdC ov (va_rf ol) r1 r2 r3 r4 r5), (r1, chC cf cl zn 0), (r2, chC cf cl zn 1), (r3, chC cf cl zn 2), (r4, chC cf cl zn 3), (h0, rcC n0 rv w0 h1), (h1, mkC h2), (h2, .inl (cJ, 4, .inr (.inl f)))] ++ va_pl L (pf cJ kd pi bd af bo)) → va_S A s.heap H locs → ∀ (i4 : Int32) (i5 : Int32) (ls : Array Slot), lv_has ls 8 [(0, .ref h0), (1, .ref q), (2, .ref r0), (3, .int n1), (4, .int i4), (5, .int i5)] → RES = xc_take_54 ov ga n0 w0 (cs pi q) n1 rv f i4 i5 → W p l e ({ frames := 4, cells := 2, slots := 11, locals := 90 }) s m #[(.ref h0 : Value), (.ref q : Value), (.ref r0 : Value), (.int n1 : Value)] below meth c H locs 0 0 QP (F0 m 54 ls []) := by
    intro rv f H locs hP hD hS i4 i5 ls hl hE
    unfold xc_take_54 at hE
    refine lv_iconst (v := 0) hx hb dX6_take_54 (by decide) ?_
    exact J_55 rv f _ _ hP hD hS i4 i5 0 _ (lv_sub hl [0, 1, 2, 3, 4, 5] rfl) hE
  have J_34 : ∀ (rv : Nat → Int32) (f : Nat → Int64) (H : Heap) (locs : List Loc), va_P D vwCl ([(r0, rdC ov (va_rf ol) r1 r2 r3 r4 r5), (r1, chC cf cl zn 0), (r2, chC cf cl zn 1), (r3, chC cf cl zn 2), (r4, chC cf cl zn 3), (h0, rcC n0 rv w0 h1), (h1, mkC h2), (h2, .inl (cJ, 4, .inr (.inl f)))] ++ va_pl L (pf cJ kd pi bd af bo)) H → va_D A ([(r0, rdC ov (va_rf ol) r1 r2 r3 r4 r5), (r1, chC cf cl zn 0), (r2, chC cf cl zn 1), (r3, chC cf cl zn 2), (r4, chC cf cl zn 3), (h0, rcC n0 rv w0 h1), (h1, mkC h2), (h2, .inl (cJ, 4, .inr (.inl f)))] ++ va_pl L (pf cJ kd pi bd af bo)) → va_S A s.heap H locs → ∀ (i4 : Int32) (s0 : Int32) (ls : Array Slot), lv_has ls 8 [(0, .ref h0), (1, .ref q), (2, .ref r0), (3, .int n1), (4, .int i4)] → RES = xc_take_34 ov ga n0 w0 (cs pi q) n1 rv f i4 s0 → W p l e ({ frames := 4, cells := 2, slots := 11, locals := 90 }) s m #[(.ref h0 : Value), (.ref q : Value), (.ref r0 : Value), (.int n1 : Value)] below meth c H locs 0 0 QP (F0 m 34 ls [.int s0]) := by
    intro rv f H locs hP hD hS i4 s0 ls hl hE
    unfold xc_take_34 at hE
    refine lv_istore (lv' := [(5, .int s0), (0, .ref h0), (1, .ref q), (2, .ref r0), (3, .int n1), (4, .int i4)]) hx hb dX6_take_34 hl (by decide) rfl (fun ls hl => ?_)
    refine lv_iload hx hb dX6_take_36 (lv_at hl 0 rfl) ?_
    refine lv_if_eq (tgt := 54) hx hb dX6_take_38 (by decide) (fun c_113 => ?_) (fun c_113 => ?_)
    · have hE := hE.trans (if_pos c_113)
      exact J_54 rv f _ _ hP hD hS i4 s0 _ (lv_sub hl [1, 2, 3, 4, 5, 0] rfl) hE
    · have hE := hE.trans (if_neg c_113)
      refine lv_iload hx hb dX6_take_41 (lv_at hl 5 rfl) ?_
      refine lv_aload_n hx hb dX6_take_43 rfl (lv_at hl 1 rfl) ?_
      refine va_get (D := D) (ci := 6) (v := .int (rv 2)) (C := RX6) (T := TX6) (N := 11) hx hb ha inlX6 hown hK hP 5 rfl rfl 2 (by decide) (ha _ kf_X6_38) (fun _ h9 => h9) rfl dX6_take_44 ?_
      refine lv_topi (fun x_114 ex_114 => ?_)
      have hE := bd_at ex_114 hE
      refine lv_icmp_ne (tgt := 54) hx hb dX6_take_47 (by decide) (fun c_115 => ?_) (fun c_115 => ?_)
      · have hE := hE.trans (if_neg c_115)
        exact J_54 rv f _ _ hP hD hS i4 s0 _ (lv_sub hl [1, 2, 3, 4, 5, 0] rfl) hE
      · have hE := hE.trans (if_pos c_115)
        refine lv_iconst (v := 1) hx hb dX6_take_50 (by decide) ?_
        refine lv_goto (tgt := 55) hx hb dX6_take_51 (by decide) ?_
        exact J_55 rv f _ _ hP hD hS i4 s0 1 _ (lv_sub hl [1, 2, 3, 4, 5, 0] rfl) hE
  have J_33 : ∀ (rv : Nat → Int32) (f : Nat → Int64) (H : Heap) (locs : List Loc), va_P D vwCl ([(r0, rdC ov (va_rf ol) r1 r2 r3 r4 r5), (r1, chC cf cl zn 0), (r2, chC cf cl zn 1), (r3, chC cf cl zn 2), (r4, chC cf cl zn 3), (h0, rcC n0 rv w0 h1), (h1, mkC h2), (h2, .inl (cJ, 4, .inr (.inl f)))] ++ va_pl L (pf cJ kd pi bd af bo)) H → va_D A ([(r0, rdC ov (va_rf ol) r1 r2 r3 r4 r5), (r1, chC cf cl zn 0), (r2, chC cf cl zn 1), (r3, chC cf cl zn 2), (r4, chC cf cl zn 3), (h0, rcC n0 rv w0 h1), (h1, mkC h2), (h2, .inl (cJ, 4, .inr (.inl f)))] ++ va_pl L (pf cJ kd pi bd af bo)) → va_S A s.heap H locs → ∀ (i4 : Int32) (ls : Array Slot), lv_has ls 8 [(0, .ref h0), (1, .ref q), (2, .ref r0), (3, .int n1), (4, .int i4)] → RES = xc_take_33 ov ga n0 w0 (cs pi q) n1 rv f i4 → W p l e ({ frames := 4, cells := 2, slots := 11, locals := 90 }) s m #[(.ref h0 : Value), (.ref q : Value), (.ref r0 : Value), (.int n1 : Value)] below meth c H locs 0 0 QP (F0 m 33 ls []) := by
    intro rv f H locs hP hD hS i4 ls hl hE
    unfold xc_take_33 at hE
    refine lv_iconst (v := 0) hx hb dX6_take_33 (by decide) ?_
    exact J_34 rv f _ _ hP hD hS i4 0 _ (lv_sub hl [0, 1, 2, 3, 4] rfl) hE
  rw [hQP] at J_33
  rw [hQP] at J_34
  rw [hQP] at J_54
  rw [hQP] at J_55
  rw [hQP] at J_88
  rw [hQP] at J_89
  rw [hQP] at J_152
  rw [hQP] at J_162
  -- from the entry
  have hE := hRES
  unfold xc_take at hE
  refine lv_aload_n hx hb dX6_take_0 rfl (lv_at hl 1 rfl) ?_
  obtain ⟨k_116, hk_116⟩ := va_pl_get (X := [(r0, rdC ov (va_rf ol) r1 r2 r3 r4 r5), (r1, chC cf cl zn 0), (r2, chC cf cl zn 1), (r3, chC cf cl zn 2), (r4, chC cf cl zn 3), (h0, rcC n0 rv w0 h1), (h1, mkC h2), (h2, .inl (cJ, 4, .inr (.inl f)))]) (f := pf cJ kd pi bd af bo) m_q
  refine va_getN (D := D) (ci := 5) (v := .int (pi 2 q)) (C := RX5) (T := TX5) (N := 7) hx hb ha inlX5 hown hK hP k_116 (hk_116.trans (congrArg (fun z => some (q, z)) (pf_p k_q))) rfl 2 (by decide) (va_Nw.use rfl (hN.f RX6 35 "CongestionBench$Parcel" "number" "I" "CongestionBench" (by decide +kernel))) (fun _ h9 => h9) rfl dX6_take_1 ?_
  refine lv_topi (fun x_117 ex_117 => ?_)
  have hE := bd_at ex_117 hE
  refine lv_istore (lv' := [(4, .int x_117), (0, .ref h0), (1, .ref q), (2, .ref r0), (3, .int n1)]) hx hb dX6_take_4 hl (by decide) rfl (fun ls hl => ?_)
  refine lv_iload hx hb dX6_take_6 (lv_at hl 0 rfl) ?_
  refine lv_aload_n hx hb dX6_take_8 rfl (lv_at hl 1 rfl) ?_
  refine va_get (D := D) (ci := 6) (v := .int (rv 2)) (C := RX6) (T := TX6) (N := 11) hx hb ha inlX6 hown hK hP 5 rfl rfl 2 (by decide) (ha _ kf_X6_38) (fun _ h9 => h9) rfl dX6_take_9 ?_
  refine lv_topi (fun x_118 ex_118 => ?_)
  have hE := bd_at ex_118 hE
  refine lv_icmp_lt (tgt := 33) hx hb dX6_take_12 (by decide) (fun c_119 => ?_) (fun c_119 => ?_)
  · have hE := hE.trans (if_pos c_119)
    exact J_33 rv f _ _ hP hD hS x_117 _ (lv_sub hl [1, 2, 3, 4, 0] rfl) hE
  · have hE := hE.trans (if_neg c_119)
    refine lv_iload hx hb dX6_take_15 (lv_at hl 0 rfl) ?_
    refine lv_aload_n hx hb dX6_take_17 rfl (lv_at hl 1 rfl) ?_
    refine va_get (D := D) (ci := 6) (v := .int (rv 2)) (C := RX6) (T := TX6) (N := 11) hx hb ha inlX6 hown hK hP 5 rfl rfl 2 (by decide) (ha _ kf_X6_38) (fun _ h9 => h9) rfl dX6_take_18 ?_
    refine lv_topi (fun x_120 ex_120 => ?_)
    have hE := bd_at ex_120 hE
    refine lv_aload_n hx hb dX6_take_21 rfl (lv_at hl 1 rfl) ?_
    refine va_get (D := D) (ci := 6) (v := .int w0) (C := RX6) (T := TX6) (N := 11) hx hb ha inlX6 hown hK hP 5 rfl rfl 3 (by decide) (ha _ kf_X6_9) (fun _ h9 => h9) rfl dX6_take_22 ?_
    refine lv_iadd hx hb dX6_take_25 ?_
    refine lv_topi (fun x_121 ex_121 => ?_)
    have hE := bd_at ex_121 hE
    refine lv_icmp_ge (tgt := 33) hx hb dX6_take_26 (by decide) (fun c_122 => ?_) (fun c_122 => ?_)
    · have hE := hE.trans (if_pos c_122)
      exact J_33 rv f _ _ hP hD hS x_117 _ (lv_sub hl [1, 2, 3, 4, 0] rfl) hE
    · have hE := hE.trans (if_neg c_122)
      refine lv_iconst (v := 1) hx hb dX6_take_29 (by decide) ?_
      refine lv_goto (tgt := 34) hx hb dX6_take_30 (by decide) ?_
      exact J_34 rv f _ _ hP hD hS x_117 1 _ (lv_sub hl [1, 2, 3, 4, 0] rfl) hE

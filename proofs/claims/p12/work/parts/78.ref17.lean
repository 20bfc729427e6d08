/-- some of a row were taken, the others moved down: n kept, k looked at -/
def CA (C T f n k e t : Int) (at_ : Nat → Int32) : Prop := f ≤ n ∧ n ≤ k ∧ k ≤ e ∧ (∀ j : Nat, f ≤ j → (j : Int) < n → t < (at_ j).toInt ∧ n - 1 - j + (e - k) + C ≤ T - (at_ j).toInt) ∧ ∀ j : Nat, k ≤ j → (j : Int) < e → t ≤ (at_ j).toInt ∧ e - 1 - j + C ≤ T - (at_ j).toInt
theorem ca_take {C T f n k k2 e t : Int} {at_ : Nat → Int32} (h : CA C T f n k e t at_) (hk : k < e) (e2 : k2 = k + 1) : CA C T f n k2 e t at_ := by
  obtain ⟨a, b, c, d, g⟩ := h
  refine ⟨a, by omega, by omega, fun j h1 h2 => ?_, fun j h1 h2 => g j (by omega) h2⟩
  have := d j h1 h2
  omega
theorem ca_keep {C T f e t : Int} {n k v : Int32} {n2 k2 : Int} {at_ at2 : Nat → Int32} (h : CA C T f n.toInt k.toInt e t at_) (h0 : 0 ≤ n.toInt) (hk : k.toInt < e) (ev : v = at_ k.toNatClampNeg) (hv : ¬ v.toInt = t) (ea : at2 = upd at_ n.toNatClampNeg v) (e1 : n2 = n.toInt + 1) (e2 : k2 = k.toInt + 1) : CA C T f n2 k2 e t at2 := by
  obtain ⟨a, b, c, d, g⟩ := h
  have ck := cl_toInt (i := k) (by omega)
  have q : ∀ j, at2 j = if (j : Int) = n.toInt then v else at_ j := fun j => by rw [ea]; exact up_at h0 j
  have gk := g k.toNatClampNeg (by omega) (by omega)
  rw [← ev] at gk
  refine ⟨by omega, by omega, by omega, fun j h1 h2 => ?_, fun j h1 h2 => ?_⟩
  · rw [q j]
    by_cases w : (j : Int) = n.toInt
    · rw [if_pos w]; omega
    · rw [if_neg w]
      have := d j h1 (by omega)
      omega
  · rw [q j, if_neg (by omega)]
    exact g j (by omega) h2
theorem ca_skip {C T f e t : Int} {n k v : Int32} {n2 k2 : Int} {at_ : Nat → Int32} (h : CA C T f n.toInt k.toInt e t at_) (h0 : 0 ≤ n.toInt) (hk : k.toInt < e) (ev : v = at_ k.toNatClampNeg) (hv : ¬ v.toInt = t) (hnk : k.toInt ≤ n.toInt) (e1 : n2 = n.toInt + 1) (e2 : k2 = k.toInt + 1) : CA C T f n2 k2 e t at_ := by
  have hb := h.2.1
  have ck := cl_toInt (i := k) (by omega)
  have cn := cl_toInt h0
  refine ca_keep h h0 hk ev hv (?_ : at_ = upd at_ n.toNatClampNeg v) e1 e2
  funext j
  show at_ j = if j = n.toNatClampNeg then v else at_ j
  by_cases w : j = n.toNatClampNeg
  · rw [if_pos w, ev, w]
    congr 1
    omega
  · rw [if_neg w]
theorem dw_ca {ph : Nat} {t f e m : Int32} {at_ : Nat → Int32} (h : DW ph t f e m at_) : CA 0 (t.toInt + 1000 + ph) f.toInt f.toInt f.toInt e.toInt t.toInt at_ :=
  ⟨Int.le_refl _, Int.le_refl _, h.1, fun j h1 h2 => by omega, fun j h1 h2 => ⟨(h.2.1 j h1 h2).1, by have := (h.2.1 j h1 h2).2; omega⟩⟩
theorem ca_dw {ph : Nat} {t f e m n : Int32} {k : Int} {at_ : Nat → Int32} (h : CA 0 (t.toInt + 1000 + ph) f.toInt n.toInt k e.toInt t.toInt at_) (hk : e.toInt ≤ k) (hm : ¬ m = 0) : DW ph t f n m at_ ∧ ∀ j : Nat, f.toInt ≤ j → (j : Int) < n.toInt → t.toInt < (at_ j).toInt := by
  obtain ⟨a, b, c, d, g⟩ := h
  refine ⟨⟨a, fun j h1 h2 => ?_, fun q => absurd q hm⟩, fun j h1 h2 => (d j h1 h2).1⟩
  have := d j h1 h2
  omega
theorem da_we {ph : Nat} {cl cl2 : Int} {t wf we we2 f e m : Int32} {at_ ow ch : Nat → Int32} (h : DA ph cl t wf we f e m at_ ow ch) (hw : we2.toInt + cl2 ≤ we.toInt + cl) : DA ph cl2 t wf we2 f e m at_ ow ch := by
  obtain ⟨a, b, c⟩ := h
  refine ⟨a, fun k h1 h2 => ?_, c⟩
  have := b k h1 h2
  omega
theorem MBi_we2 {mi : Nat → Int32} {ma : Nat → Nat → Int32} {v : Int32} (h : MB mi ma) (h1 : 0 ≤ v.toInt) (h2 : v.toInt ≤ 4096) (h3 : (mi 10).toInt ≤ v.toInt) (h4 : v.toInt ≤ (mi 11).toInt) : MB (upd mi 11 v) ma := ⟨h.1, h.2.1, h.2.2.1, h.2.2.2.1, h.2.2.2.2.1, h.2.2.2.2.2.1, h.2.2.2.2.2.2.1, h.2.2.2.2.2.2.2.1, ⟨h1, h2⟩, h.2.2.2.2.2.2.2.2.2.1, h.2.2.2.2.2.2.2.2.2.2.1, h.2.2.2.2.2.2.2.2.2.2.2.1, h.2.2.2.2.2.2.2.2.2.2.2.2.1, h.2.2.2.2.2.2.2.2.2.2.2.2.2.1, h.2.2.2.2.2.2.2.2.2.2.2.2.2.2.1, h.2.2.2.2.2.2.2.2.2.2.2.2.2.2.2.1, h.2.2.2.2.2.2.2.2.2.2.2.2.2.2.2.2.1, h.2.2.2.2.2.2.2.2.2.2.2.2.2.2.2.2.2.1, h.2.2.2.2.2.2.2.2.2.2.2.2.2.2.2.2.2.2.1, h.2.2.2.2.2.2.2.2.2.2.2.2.2.2.2.2.2.2.2.1, h.2.2.2.2.2.2.2.2.2.2.2.2.2.2.2.2.2.2.2.2.1, h.2.2.2.2.2.2.2.2.2.2.2.2.2.2.2.2.2.2.2.2.2.1, h.2.2.2.2.2.2.2.2.2.2.2.2.2.2.2.2.2.2.2.2.2.2.1, h.2.2.2.2.2.2.2.2.2.2.2.2.2.2.2.2.2.2.2.2.2.2.2.1, h.2.2.2.2.2.2.2.2.2.2.2.2.2.2.2.2.2.2.2.2.2.2.2.2.1, h.2.2.2.2.2.2.2.2.2.2.2.2.2.2.2.2.2.2.2.2.2.2.2.2.2.1, h.2.2.2.2.2.2.2.2.2.2.2.2.2.2.2.2.2.2.2.2.2.2.2.2.2.2.1, h.2.2.2.2.2.2.2.2.2.2.2.2.2.2.2.2.2.2.2.2.2.2.2.2.2.2.2.1, h.2.2.2.2.2.2.2.2.2.2.2.2.2.2.2.2.2.2.2.2.2.2.2.2.2.2.2.2.1, h.2.2.2.2.2.2.2.2.2.2.2.2.2.2.2.2.2.2.2.2.2.2.2.2.2.2.2.2.2.1, h.2.2.2.2.2.2.2.2.2.2.2.2.2.2.2.2.2.2.2.2.2.2.2.2.2.2.2.2.2.2.1, h.2.2.2.2.2.2.2.2.2.2.2.2.2.2.2.2.2.2.2.2.2.2.2.2.2.2.2.2.2.2.2.1, h.2.2.2.2.2.2.2.2.2.2.2.2.2.2.2.2.2.2.2.2.2.2.2.2.2.2.2.2.2.2.2.2.1, h.2.2.2.2.2.2.2.2.2.2.2.2.2.2.2.2.2.2.2.2.2.2.2.2.2.2.2.2.2.2.2.2.2.1, fun q => ⟨(MB_none h q).1, by have q2 := (MB_none h q).2.1; show (mi 10).toInt = v.toInt; omega, (MB_none h q).2.2⟩⟩
theorem MBi_ae2 {mi : Nat → Int32} {ma : Nat → Nat → Int32} {v : Int32} (h : MB mi ma) (h1 : 0 ≤ v.toInt) (h2 : v.toInt ≤ 6000) (h3 : (mi 17).toInt ≤ v.toInt) (h4 : v.toInt ≤ (mi 18).toInt) : MB (upd mi 18 v) ma := ⟨h.1, h.2.1, h.2.2.1, h.2.2.2.1, h.2.2.2.2.1, h.2.2.2.2.2.1, h.2.2.2.2.2.2.1, h.2.2.2.2.2.2.2.1, h.2.2.2.2.2.2.2.2.1, h.2.2.2.2.2.2.2.2.2.1, ⟨h1, h2⟩, h.2.2.2.2.2.2.2.2.2.2.2.1, h.2.2.2.2.2.2.2.2.2.2.2.2.1, h.2.2.2.2.2.2.2.2.2.2.2.2.2.1, h.2.2.2.2.2.2.2.2.2.2.2.2.2.2.1, h.2.2.2.2.2.2.2.2.2.2.2.2.2.2.2.1, h.2.2.2.2.2.2.2.2.2.2.2.2.2.2.2.2.1, h.2.2.2.2.2.2.2.2.2.2.2.2.2.2.2.2.2.1, h.2.2.2.2.2.2.2.2.2.2.2.2.2.2.2.2.2.2.1, h.2.2.2.2.2.2.2.2.2.2.2.2.2.2.2.2.2.2.2.1, h.2.2.2.2.2.2.2.2.2.2.2.2.2.2.2.2.2.2.2.2.1, h.2.2.2.2.2.2.2.2.2.2.2.2.2.2.2.2.2.2.2.2.2.1, h.2.2.2.2.2.2.2.2.2.2.2.2.2.2.2.2.2.2.2.2.2.2.1, h.2.2.2.2.2.2.2.2.2.2.2.2.2.2.2.2.2.2.2.2.2.2.2.1, h.2.2.2.2.2.2.2.2.2.2.2.2.2.2.2.2.2.2.2.2.2.2.2.2.1, h.2.2.2.2.2.2.2.2.2.2.2.2.2.2.2.2.2.2.2.2.2.2.2.2.2.1, h.2.2.2.2.2.2.2.2.2.2.2.2.2.2.2.2.2.2.2.2.2.2.2.2.2.2.1, h.2.2.2.2.2.2.2.2.2.2.2.2.2.2.2.2.2.2.2.2.2.2.2.2.2.2.2.1, h.2.2.2.2.2.2.2.2.2.2.2.2.2.2.2.2.2.2.2.2.2.2.2.2.2.2.2.2.1, h.2.2.2.2.2.2.2.2.2.2.2.2.2.2.2.2.2.2.2.2.2.2.2.2.2.2.2.2.2.1, h.2.2.2.2.2.2.2.2.2.2.2.2.2.2.2.2.2.2.2.2.2.2.2.2.2.2.2.2.2.2.1, h.2.2.2.2.2.2.2.2.2.2.2.2.2.2.2.2.2.2.2.2.2.2.2.2.2.2.2.2.2.2.2.1, h.2.2.2.2.2.2.2.2.2.2.2.2.2.2.2.2.2.2.2.2.2.2.2.2.2.2.2.2.2.2.2.2.1, h.2.2.2.2.2.2.2.2.2.2.2.2.2.2.2.2.2.2.2.2.2.2.2.2.2.2.2.2.2.2.2.2.2.1, fun q => ⟨(MB_none h q).1, (MB_none h q).2.1, by have q2 := (MB_none h q).2.2; show (mi 17).toInt = v.toInt; omega⟩⟩

set_option maxRecDepth 100000 in
noncomputable def x_comes_95 : Nat → (Nat → Int32) → (Nat → Nat → Int32) → Int32 → Int32 → (Option XT)
  | 0, mi, ma, _, _ => none
  | fu + 1, mi, ma, i1, i2 => bd (mi 11) (fun v1 => (if v1 ≤ i2 then bd (upd mi 11 i1) (fun m2 => some (m2, ma, 0)) else bd (ma 13 i2.toNatClampNeg) (fun v3 => bd (mi 4) (fun v4 => (if v3 = v4 then bd (ma 14 i2.toNatClampNeg) (fun v10 => bd (ma 15 i2.toNatClampNeg) (fun v11 => bd (ma 16 i2.toNatClampNeg) (fun v12 => bo (x_receives v10 v11 v12 mi ma) (fun m13 a14 _ => bd (i2 + 1) (fun v16 => x_comes_95 fu m13 a14 i1 v16))))) else bc (x_way i1 i2 mi ma) (fun m5 a6 _ => bd (i1 + 1) (fun v8 => bd (i2 + 1) (fun v9 => x_comes_95 fu m5 a6 v8 v9))))))))
set_option maxRecDepth 100000 in
noncomputable def x_comes_7 : Nat → (Nat → Int32) → (Nat → Nat → Int32) → (Option XT)
  | 0, mi, ma => none
  | fu + 1, mi, ma => bd (mi 10) (fun v17 => bd (mi 11) (fun v18 => (if v18 ≤ v17 then some (mi, ma, 0) else bd (mi 10) (fun v19 => bd (ma 13 v19.toNatClampNeg) (fun v20 => bd (mi 4) (fun v21 => (if v20 = v21 then bd (mi 10) (fun v22 => bd (v22 + (1 : Int32)) (fun v23 => bd (upd mi 10 v23) (fun m24 => bd (m24 10) (fun v25 => bd (v25 - (1 : Int32)) (fun v26 => bd (ma 14 v26.toNatClampNeg) (fun v27 => bd (m24 10) (fun v28 => bd (v28 - (1 : Int32)) (fun v29 => bd (ma 15 v29.toNatClampNeg) (fun v30 => bd (m24 10) (fun v31 => bd (v31 - (1 : Int32)) (fun v32 => bd (ma 16 v32.toNatClampNeg) (fun v33 => bo (x_receives v27 v30 v33 m24 ma) (fun m34 a35 _ => x_comes_7 fu m34 a35))))))))))))) else some (mi, ma, 0))))))))
set_option maxRecDepth 100000 in
noncomputable def x_comes (mi : Nat → Int32) (ma : Nat → Nat → Int32) : (Option XT) := ax (MB mi ma ∧ ∃ (ph : Nat) (cl : Int), DW ph (mi 4) (mi 10) (mi 11) (mi 12) (ma 13) ∧ DA ph cl (mi 4) (mi 10) (mi 11) (mi 17) (mi 18) (mi 19) (ma 20) (ma 40) (ma 41)) (bd (mi 12) (fun v37 => (if v37 = (0 : Int32) then x_comes_7 5000 mi ma else bd (mi 10) (fun v38 => bd (mi 10) (fun v39 => x_comes_95 5000 mi ma v38 v39)))))
set_option maxHeartbeats 4000000 in
set_option maxRecDepth 100000 in
theorem m_comes (l : Launch) (D : va_G) (cI cJ cZ cO : ClassId) (sz : Nat) (h0 : Nat) (mq : Nat → Nat) (mi : Nat → Int32) (ma : Nat → Nat → Int32) (ph : Nat) (cl : Int) (hI : MB mi ma) (hph : ph ≤ 1) (hc1 : 0 ≤ cl) (hc2 : cl ≤ 512) (hU : (DW ph (mi 4) (mi 10) (mi 11) (mi 12) (ma 13) ∧ DA ph cl (mi 4) (mi 10) (mi 11) (mi 17) (mi 18) (mi 19) (ma 20) (ma 40) (ma 41))) : Met l yX11_comes (wa yX11_comes cX11_comes 3 none) ({ frames := 3, cells := 0, slots := 0, locals := 75 }) (va_Pc [.ref h0] (pw_s D cI cJ cZ cO sz (mw cI cZ h0 mq mi ma))) (va_Qv (fun (_ : Unit) => True) (fun (_ : Unit) (t : State) => ∃ (mi2 : Nat → Int32) (ma2 : Nat → Nat → Int32), ((MB mi2 ma2 ∧ (∀ k, k ∉ ([29, 17, 18, 19, 10, 11] : List Nat) → mi2 k = mi k) ∧ (∀ k, k ∉ ([38, 39, 36, 34, 13, 14, 15, 16, 40, 37, 20, 21, 22, 23, 24, 25] : List Nat) → ma2 k = ma k) ∧ ((DW ph (mi2 4) (mi2 10) (mi2 11) (mi2 12) (ma2 13) ∧ DA ph cl (mi2 4) (mi2 10) (mi2 11) (mi2 17) (mi2 18) (mi2 19) (ma2 20) (ma2 40) (ma2 41)) ∧ ∀ k : Nat, (mi2 10).toInt ≤ k → (k : Int) < (mi2 11).toInt → (mi2 4).toInt < (ma2 13 k).toInt)) ∧ ∃ rr : Int32, (x_comes mi ma) = some (mi2, ma2, rr)) ∧ pw_t D cI cJ cZ cO (va_A (mw cI cZ h0 mq mi ma) sz) (mw cI cZ h0 mq mi2 ma2) t) (va_A (mw cI cZ h0 mq mi ma) sz)) 0 0 (va_A (mw cI cZ h0 mq mi ma) sz) := by
  refine Met.ofW (cc := cX11_comes) (maxL := 3) (ret := none) (by decide) rfl ?_
  intro p e s m args below meth c s₁ B hml hv
  obtain ⟨rfl, hsz, hP, hK, hD0, hN⟩ := hv
  have hx := B.exec
  have hb := B.bytes
  have hr := B.returns
  have hts := atoms_spec (ws := (wa yX11_comes cX11_comes 3 none)) B.pre
  have ha : ∀ w ∈ wsL_law, w.before _ s = true := fun w h => hts w (List.mem_cons_of_mem _ h)
  have hown : s.vm.findClass RX11 = some m.cls := findClass_of_methodNamed B.named
  have hlocks := B.notSynchronized
  subst hsz
  have hD := hD0.self (sz := s.heap.size)
  generalize hAe : va_A (mw cI cZ h0 mq mi ma) s.heap.size = A at hD ⊢
  have hA : ∀ q : Nat, s.heap.size ≤ q → A q := fun q h => by rw [← hAe]; exact Or.inr h
  have hS : va_S A s.heap s.heap [] := va_S.rf
  have hP : va_P D vwCl (mw cI cZ h0 mq mi ma) s.heap := hP
  have hl := lv_entry ([.ref h0]) (n := 3) (Nat.le_of_ble_eq_true rfl)
  rw [lg_entry_eq]
  generalize (lg_sl ([.ref h0]) ++ List.replicate (3 - (lg_sl ([.ref h0])).length) Slot.unset).toArray = ls at hl ⊢
  have hl : lv_has ls 3 [(0, .ref h0)] := hl
  have kc_m1 := tk_m1
  have kc_0 := tk_0
  have kc_1 := tk_1
  obtain ⟨mi0, hmi0⟩ : ∃ y, y = mi := ⟨_, rfl⟩
  obtain ⟨ma0, hma0⟩ : ∃ y, y = ma := ⟨_, rfl⟩
  have hFI : ∀ k, k ∉ ([29, 17, 18, 19, 10, 11] : List Nat) → mi k = mi0 k := fun k _ => by rw [hmi0]
  have hFA : ∀ k, k ∉ ([38, 39, 36, 34, 13, 14, 15, 16, 40, 37, 20, 21, 22, 23, 24, 25] : List Nat) → ma k = ma0 k := fun k _ => by rw [hma0]
  obtain ⟨QP, hQP⟩ : ∃ y : State → Prop, y = (MQ below (va_Qv (fun (_ : Unit) => True) (fun (_ : Unit) (t : State) => ∃ (mi2 : Nat → Int32) (ma2 : Nat → Nat → Int32), ((MB mi2 ma2 ∧ (∀ k, k ∉ ([29, 17, 18, 19, 10, 11] : List Nat) → mi2 k = mi k) ∧ (∀ k, k ∉ ([38, 39, 36, 34, 13, 14, 15, 16, 40, 37, 20, 21, 22, 23, 24, 25] : List Nat) → ma2 k = ma k) ∧ ((DW ph (mi2 4) (mi2 10) (mi2 11) (mi2 12) (ma2 13) ∧ DA ph cl (mi2 4) (mi2 10) (mi2 11) (mi2 17) (mi2 18) (mi2 19) (ma2 20) (ma2 40) (ma2 41)) ∧ ∀ k : Nat, (mi2 10).toInt ≤ k → (k : Int) < (mi2 11).toInt → (mi2 4).toInt < (ma2 13 k).toInt)) ∧ ∃ rr : Int32, (x_comes mi ma) = some (mi2, ma2, rr)) ∧ pw_t D cI cJ cZ cO A (mw cI cZ h0 mq mi2 ma2) t) A) #[(.ref h0 : Value)] s 0 0 A) := ⟨_, rfl⟩
  obtain ⟨RES, hRES⟩ : ∃ y, y = (x_comes mi ma) := ⟨_, rfl⟩
  have y1 := MB_wayFirst hI
  have y2 := MB_wayEnd hI
  have J_95 : ∀ (n_95 : Nat), ∀ (mi : Nat → Int32) (ma : Nat → Nat → Int32) (i1 : Int32) (i2 : Int32) (H : Heap) (locs : List Loc), va_P D vwCl (mw cI cZ h0 mq mi ma) H → va_D A (mw cI cZ h0 mq mi ma) → va_S A s.heap H locs → MB mi ma → (∀ k, k ∉ ([29, 17, 18, 19, 10, 11] : List Nat) → mi k = mi0 k) → (∀ k, k ∉ ([38, 39, 36, 34, 13, 14, 15, 16, 40, 37, 20, 21, 22, 23, 24, 25] : List Nat) → ma k = ma0 k) → RES = x_comes_95 n_95 mi ma i1 i2 → (CA 0 ((mi 4).toInt + 1000 + ph) (mi 10).toInt i1.toInt i2.toInt (mi 11).toInt (mi 4).toInt (ma 13) ∧ (mi 11).toInt ≤ (mi 10).toInt + 1002 ∧ ¬ mi 12 = 0 ∧ DA ph (cl - (i2.toInt - i1.toInt)) (mi 4) (mi 10) (mi 11) (mi 17) (mi 18) (mi 19) (ma 20) (ma 40) (ma 41)) → ∀ (ls : Array Slot), lv_has ls 3 [(0, .ref h0), (1, .int i1), (2, .int i2)] → (((mi 11).toInt - i2.toInt).toNat) < n_95 → W p l e ({ frames := 3, cells := 0, slots := 0, locals := 75 }) s m #[(.ref h0 : Value)] below meth c H locs 0 0 QP (F0 m 95 ls []) := by
    intro n_95
    induction n_95 with
    | zero => intros; exact absurd ‹_ < 0› (Nat.not_lt_zero _)
    | succ n_95 ih_95 =>
      intro mi ma i1 i2 H locs hP hD hS hI hFI hFA hE hv ls hl hm
      rw [x_comes_95] at hE
      have y1 := MB_wayFirst hI
      have y2 := MB_wayEnd hI
      have v1 := hv.1.1
      have v2 := hv.1.2.1
      have v3 := hv.1.2.2.1
      have v4 := hv.2.1
      refine lv_iload_n hx hb dX11_comes_95 rfl (lv_at hl 2 rfl) ?_
      refine lv_aload_n hx hb dX11_comes_96 rfl (lv_at hl 0 rfl) ?_
      refine va_get (D := D) (ci := 11) (v := .int (mi 11)) (C := RX11) (T := TX11) (N := 74) hx hb ha inlX11 hown hK hP 0 mw_at0 rfl 11 (by decide) (ha _ kf_X11_236) (fun _ h9 => h9) rfl dX11_comes_97 ?_
      refine lv_topi (fun x_1 ex_1 => ?_)
      have hE := bd_at ex_1 hE
      have u_x_1 := congrArg Int32.toInt ex_1
      have r_x_1 := MB_wayEnd hI
      rw [← ex_1] at r_x_1
      refine lv_icmp_ge (tgt := 156) hx hb dX11_comes_100 (by decide) (fun c_2 => ?_) (fun c_2 => ?_)
      · have t_c_2 := Int32.le_iff_toInt_le.mp c_2
        have hE := hE.trans (if_pos c_2)
        refine lv_aload_n hx hb dX11_comes_156 rfl (lv_at hl 0 rfl) ?_
        refine lv_iload_n hx hb dX11_comes_157 rfl (lv_at hl 1 rfl) ?_
        refine va_put (D := D) (ci := 11) (v := .int i1) (ty := .int) (C := RX11) (T := TX11) (N := 74) hx hb ha inlX11 tyX11 tyX11_ok nmX11 hown hK hP hD hS 0 mw_at0 rfl 11 (by decide) (ha _ kf_X11_236) (fun _ h9 => h9) rfl (by decide +kernel) rfl rfl (Nat.le_of_ble_eq_true rfl) dX11_comes_158 (fun H locs hP hD hS => ?_)
        have hP : va_P D vwCl (mw cI cZ h0 mq (upd mi 11 i1) ma) H := mwP_11 hP
        have hD : va_D A (mw cI cZ h0 mq (upd mi 11 i1) ma) := mwD_11 hD
        generalize hmi_3 : upd mi 11 i1 = mi_3 at hP hD
        have hI : MB mi_3 ma := by rw [← hmi_3]; exact MBi_we2 hI (by omega) (by omega) (by omega) (by omega)
        have hFI : ∀ k, k ∉ ([29, 17, 18, 19, 10, 11] : List Nat) → mi_3 k = mi0 k := fun k hk => by rw [← hmi_3]; exact (if_neg (fun e => hk (by rw [e]; decide))).trans (hFI k hk)
        have hE := bs_at hmi_3 hE
        rw [hQP]
        exact W.vret hx hb hr (fun t ht hW => ⟨⟨(), rfl, trivial, ⟨mi_3, ma, ⟨⟨hI, fun k hk => (hFI k hk).trans (by rw [hmi0]), fun k hk => (hFA k hk).trans (by rw [hma0]), (by rw [← hmi_3]; exact ⟨⟨(ca_dw hv.1 (by omega) hv.2.2.1).1, da_we hv.2.2.2 (by show i1.toInt + cl ≤ (mi 11).toInt + (cl - (i2.toInt - i1.toInt)); omega)⟩, (ca_dw (m := mi 12) hv.1 (by omega) hv.2.2.1).2⟩)⟩, _, hRES.symm.trans hE⟩, by rw [ht]; exact hP, va_K.moved hW.alike hK, hD⟩⟩, hS.F ht⟩) hS.2.2 dX11_comes_161
      · have t_c_2 := Int32.lt_iff_toInt_lt.mp (Int32.not_le.mp c_2)
        have hE := hE.trans (if_neg c_2)
        refine lv_aload_n hx hb dX11_comes_103 rfl (lv_at hl 0 rfl) ?_
        refine va_get (D := D) (ci := 11) (v := .ref (mq 13)) (C := RX11) (T := TX11) (N := 74) hx hb ha inlX11 hown hK hP 0 mw_at0 rfl 13 (by decide) (ha _ kf_X11_33) (fun _ h9 => h9) rfl dX11_comes_104 ?_
        refine lv_iload_n hx hb dX11_comes_107 rfl (lv_at hl 2 rfl) ?_
        have hin_4 : vp_in i2 4096 := vpi_of (by omega) (by omega)
        refine va_iald hx hb hK hP 4 0 mw_at13 rfl hin_4 dX11_comes_108 ?_
        refine lv_topi (fun x_5 ex_5 => ?_)
        have hE := bd_at ex_5 hE
        have u_x_5 := congrArg Int32.toInt ex_5
        refine lv_aload_n hx hb dX11_comes_109 rfl (lv_at hl 0 rfl) ?_
        refine va_get (D := D) (ci := 11) (v := .int (mi 4)) (C := RX11) (T := TX11) (N := 74) hx hb ha inlX11 hown hK hP 0 mw_at0 rfl 4 (by decide) (ha _ kf_X11_207) (fun _ h9 => h9) rfl dX11_comes_110 ?_
        refine lv_topi (fun x_6 ex_6 => ?_)
        have hE := bd_at ex_6 hE
        have u_x_6 := congrArg Int32.toInt ex_6
        have r_x_6 := MB_tick hI
        rw [← ex_6] at r_x_6
        refine lv_icmp_ne (tgt := 141) hx hb dX11_comes_113 (by decide) (fun c_7 => ?_) (fun c_7 => ?_)
        · have t_c_7 := mt Int32.toInt_inj.mp c_7
          have hE := hE.trans (if_neg c_7)
          refine lv_aload_n hx hb dX11_comes_141 rfl (lv_at hl 0 rfl) ?_
          refine lv_iload_n hx hb dX11_comes_142 rfl (lv_at hl 1 rfl) ?_
          refine lv_iload_n hx hb dX11_comes_143 rfl (lv_at hl 2 rfl) ?_
          have hFc := va_freeW hD hS hA
          refine va_callv (va_runV (As := [.int i1, .int i2]) (rest := []) ⟨hx, hb, hml, hown, ha⟩ (m_way l D cI cJ cZ cO _ h0 mq mi ma ph cl i1 i2 hI (by omega) (by omega) (by omega) (by omega)) (cwV 2 ha (gaV kl_X11_249 km_X11_way ks_X11_way kz_X11 kd_X11_way) rfl rfl rfl (by decide +kernel) ⟨Nat.le_of_ble_eq_true rfl, Nat.le_of_ble_eq_true rfl⟩) ⟨pw_blind, va_recv hK hP (ci := 11) (q0 := 0) rfl rfl, fun U hU hW => ⟨rfl, pw_start hU hW hP hK hD hN⟩⟩ rfl rfl hl.1 rfl (lv_room (Nat.le_of_ble_eq_true rfl)) dX11_comes_144 ⟨Nat.le_of_ble_eq_true rfl, Nat.le_of_ble_eq_true rfl⟩) hS (fun q _ h => hFc q h) hFc (fun u t H1 locs ht hvm hw hB hz1 hk1 hS => ?_)
          obtain ⟨mi_9, ma_10, ⟨hf_11, hX1, hX2⟩, hP, hK1, hD1⟩ := hB
          have hE := bc_atv hX1 hX2 hE
          rw [ht] at hP
          have hD := hD1.weaken (fun k q _ h => hFc q.1 h)
          clear hD1
          generalize H1 = H at hP hS ⊢
          refine W.widen (k := 0) (n := 0) (Nat.le_refl _) (Nat.le_refl _) ?_
          have hI := hf_11.1
          have hFI : ∀ k, k ∉ ([29, 17, 18, 19, 10, 11] : List Nat) → mi_9 k = mi0 k := fun k hk => (hf_11.2.1 k (fun h => hk (by revert h; exact sub_of (by decide) k))).trans (hFI k hk)
          have hFA : ∀ k, k ∉ ([38, 39, 36, 34, 13, 14, 15, 16, 40, 37, 20, 21, 22, 23, 24, 25] : List Nat) → ma_10 k = ma0 k := fun k hk => (hf_11.2.2.1 k (fun h => hk (by revert h; exact sub_of (by decide) k))).trans (hFA k hk)
          have s10 := congrArg Int32.toInt (hf_11.2.1 10 (by decide))
          have s11 := congrArg Int32.toInt (hf_11.2.1 11 (by decide))
          obtain ⟨x_12, ex_12⟩ : ∃ y : Int32, y = i1 + 1 := ⟨_, rfl⟩
          have hE := bd_at ex_12 hE
          refine lv_iinc (v := x_12) (lv' := [(1, .int x_12), (0, .ref h0), (2, .int i2)]) hx hb dX11_comes_147 hl (k := 1) rfl (by rw [ex_12]; rfl) (by decide) rfl (fun ls hl => ?_)
          try have t_x_12 := ti_add ex_12 (by omega) (by omega)
          obtain ⟨x_13, ex_13⟩ : ∃ y : Int32, y = i2 + 1 := ⟨_, rfl⟩
          have hE := bd_at ex_13 hE
          refine lv_iinc (v := x_13) (lv' := [(2, .int x_13), (1, .int x_12), (0, .ref h0)]) hx hb dX11_comes_150 hl (k := 2) rfl (by rw [ex_13]; rfl) (by decide) rfl (fun ls hl => ?_)
          try have t_x_13 := ti_add ex_13 (by omega) (by omega)
          refine lv_goto (tgt := 95) hx hb dX11_comes_153 (by decide) ?_
          exact ih_95 mi_9 ma_10 x_12 x_13 _ _ hP hD hS hI hFI hFA hE ⟨by rw [show mi_9 4 = mi 4 from (hf_11.2.1 4 (by decide)), show mi_9 10 = mi 10 from (hf_11.2.1 10 (by decide)), show mi_9 11 = mi 11 from (hf_11.2.1 11 (by decide))]; exact ca_keep hv.1 (by omega) (by omega) rfl (by rw [← ex_5, ← ex_6]; exact t_c_7) hf_11.2.2.2 (by omega) (by omega), by rw [show mi_9 10 = mi 10 from (hf_11.2.1 10 (by decide)), show mi_9 11 = mi 11 from (hf_11.2.1 11 (by decide))]; exact hv.2.1, by rw [show mi_9 12 = mi 12 from (hf_11.2.1 12 (by decide))]; exact hv.2.2.1, da_sw (da_keep hv.2.2.2 ((hf_11.2.1 4 (by decide))) ((hf_11.2.1 10 (by decide))) ((hf_11.2.1 11 (by decide))) ((hf_11.2.1 17 (by decide))) ((hf_11.2.1 18 (by decide))) ((hf_11.2.1 19 (by decide))) ((hf_11.2.2.1 20 (by decide))) ((hf_11.2.2.1 40 (by decide))) ((hf_11.2.2.1 41 (by decide)))) (by omega)⟩ _ (lv_sub hl [2, 1, 0] rfl) (by omega)
        · have t_c_7 := congrArg Int32.toInt c_7
          have hE := hE.trans (if_pos c_7)
          refine lv_aload_n hx hb dX11_comes_116 rfl (lv_at hl 0 rfl) ?_
          refine lv_aload_n hx hb dX11_comes_117 rfl (lv_at hl 0 rfl) ?_
          refine va_get (D := D) (ci := 11) (v := .ref (mq 14)) (C := RX11) (T := TX11) (N := 74) hx hb ha inlX11 hown hK hP 0 mw_at0 rfl 14 (by decide) (ha _ kf_X11_36) (fun _ h9 => h9) rfl dX11_comes_118 ?_
          refine lv_iload_n hx hb dX11_comes_121 rfl (lv_at hl 2 rfl) ?_
          have hin_14 : vp_in i2 4096 := vpi_of (by omega) (by omega)
          refine va_iald hx hb hK hP 5 0 mw_at14 rfl hin_14 dX11_comes_122 ?_
          refine lv_topi (fun x_15 ex_15 => ?_)
          have hE := bd_at ex_15 hE
          have u_x_15 := congrArg Int32.toInt ex_15
          have r_x_15 := fw_ld (MB_wayFlow hI) hin_14 ex_15
          refine lv_aload_n hx hb dX11_comes_123 rfl (lv_at hl 0 rfl) ?_
          refine va_get (D := D) (ci := 11) (v := .ref (mq 15)) (C := RX11) (T := TX11) (N := 74) hx hb ha inlX11 hown hK hP 0 mw_at0 rfl 15 (by decide) (ha _ kf_X11_39) (fun _ h9 => h9) rfl dX11_comes_124 ?_
          refine lv_iload_n hx hb dX11_comes_127 rfl (lv_at hl 2 rfl) ?_
          have hin_16 : vp_in i2 4096 := vpi_of (by omega) (by omega)
          refine va_iald hx hb hK hP 6 0 mw_at15 rfl hin_16 dX11_comes_128 ?_
          refine lv_topi (fun x_17 ex_17 => ?_)
          have hE := bd_at ex_17 hE
          have u_x_17 := congrArg Int32.toInt ex_17
          have r_x_17 := rg_ld (MB_waySegment hI) hin_16 ex_17
          refine lv_aload_n hx hb dX11_comes_129 rfl (lv_at hl 0 rfl) ?_
          refine va_get (D := D) (ci := 11) (v := .ref (mq 16)) (C := RX11) (T := TX11) (N := 74) hx hb ha inlX11 hown hK hP 0 mw_at0 rfl 16 (by decide) (ha _ kf_X11_42) (fun _ h9 => h9) rfl dX11_comes_130 ?_
          refine lv_iload_n hx hb dX11_comes_133 rfl (lv_at hl 2 rfl) ?_
          have hin_18 : vp_in i2 4096 := vpi_of (by omega) (by omega)
          refine va_zald hx hb hK hP 7 2 mw_at16 rfl hin_18 dX11_comes_134 ?_
          refine lv_topi (fun x_19 ex_19 => ?_)
          have hE := bd_at ex_19 hE
          have u_x_19 := congrArg Int32.toInt ex_19
          have hfl := MB_flw hI (by omega)
          have f4 := MB_flows hI
          have hFc := va_freeW hD hS hA
          refine va_callv (va_runV (As := [.int x_15, .int x_17, .int x_19]) (rest := []) ⟨hx, hb, hml, hown, ha⟩ (m_receives l D cI cJ cZ cO _ h0 mq mi ma ph (cl - (i2.toInt - i1.toInt) - 1) x_15 x_17 x_19 hI (by omega) (by omega) (by omega) (by omega) (by omega) hph (by omega) (by omega) (by omega) (by omega) (by rw [show cl - (i2.toInt - i1.toInt) - 1 + 1 = cl - (i2.toInt - i1.toInt) by omega]; exact hv.2.2.2)) (cwV 3 ha (gaV kl_X11_253 km_X11_receives ks_X11_receives kz_X11 kd_X11_receives) rfl rfl rfl (by decide +kernel) ⟨Nat.le_of_ble_eq_true rfl, Nat.le_of_ble_eq_true rfl⟩) ⟨pw_blind, va_recv hK hP (ci := 11) (q0 := 0) rfl rfl, fun U hU hW => ⟨rfl, pw_start hU hW hP hK hD hN⟩⟩ rfl rfl hl.1 rfl (lv_room (Nat.le_of_ble_eq_true rfl)) dX11_comes_135 ⟨Nat.le_of_ble_eq_true rfl, Nat.le_of_ble_eq_true rfl⟩) hS (fun q _ h => hFc q h) hFc (fun u t H1 locs ht hvm hw hB hz1 hk1 hS => ?_)
          obtain ⟨mi_21, ma_22, ⟨hf_23, rr_, hX⟩, hP, hK1, hD1⟩ := hB
          have hE := bo_at hX hE
          rw [ht] at hP
          have hD := hD1.weaken (fun k q _ h => hFc q.1 h)
          clear hD1
          generalize H1 = H at hP hS ⊢
          refine W.widen (k := 0) (n := 0) (Nat.le_refl _) (Nat.le_refl _) ?_
          have hI := hf_23.1
          have hFI : ∀ k, k ∉ ([29, 17, 18, 19, 10, 11] : List Nat) → mi_21 k = mi0 k := fun k hk => (hf_23.2.1 k (fun h => hk (by revert h; exact sub_of (by decide) k))).trans (hFI k hk)
          have hFA : ∀ k, k ∉ ([38, 39, 36, 34, 13, 14, 15, 16, 40, 37, 20, 21, 22, 23, 24, 25] : List Nat) → ma_22 k = ma0 k := fun k hk => (hf_23.2.2.1 k (fun h => hk (by revert h; exact sub_of (by decide) k))).trans (hFA k hk)
          have s10 := congrArg Int32.toInt (hf_23.2.1 10 (by decide))
          have s11 := congrArg Int32.toInt (hf_23.2.1 11 (by decide))
          refine lv_goto (tgt := 150) hx hb dX11_comes_138 (by decide) ?_
          obtain ⟨x_24, ex_24⟩ : ∃ y : Int32, y = i2 + 1 := ⟨_, rfl⟩
          have hE := bd_at ex_24 hE
          refine lv_iinc (v := x_24) (lv' := [(2, .int x_24), (0, .ref h0), (1, .int i1)]) hx hb dX11_comes_150 hl (k := 2) rfl (by rw [ex_24]; rfl) (by decide) rfl (fun ls hl => ?_)
          try have t_x_24 := ti_add ex_24 (by omega) (by omega)
          refine lv_goto (tgt := 95) hx hb dX11_comes_153 (by decide) ?_
          exact ih_95 mi_21 ma_22 i1 x_24 _ _ hP hD hS hI hFI hFA hE ⟨by rw [show mi_21 4 = mi 4 from (hf_23.2.1 4 (by decide)), show mi_21 10 = mi 10 from (hf_23.2.1 10 (by decide)), show mi_21 11 = mi 11 from (hf_23.2.1 11 (by decide)), show ma_22 13 = ma 13 from (hf_23.2.2.1 13 (by decide))]; exact ca_take hv.1 (by omega) (by omega), by rw [show mi_21 10 = mi 10 from (hf_23.2.1 10 (by decide)), show mi_21 11 = mi 11 from (hf_23.2.1 11 (by decide))]; exact hv.2.1, by rw [show mi_21 12 = mi 12 from (hf_23.2.1 12 (by decide))]; exact hv.2.2.1, da_sw hf_23.2.2.2 (by omega)⟩ _ (lv_sub hl [1, 2, 0] rfl) (by omega)
  have J_7 : ∀ (n_7 : Nat), ∀ (mi : Nat → Int32) (ma : Nat → Nat → Int32) (H : Heap) (locs : List Loc), va_P D vwCl (mw cI cZ h0 mq mi ma) H → va_D A (mw cI cZ h0 mq mi ma) → va_S A s.heap H locs → MB mi ma → (∀ k, k ∉ ([29, 17, 18, 19, 10, 11] : List Nat) → mi k = mi0 k) → (∀ k, k ∉ ([38, 39, 36, 34, 13, 14, 15, 16, 40, 37, 20, 21, 22, 23, 24, 25] : List Nat) → ma k = ma0 k) → RES = x_comes_7 n_7 mi ma → ((DW ph (mi 4) (mi 10) (mi 11) (mi 12) (ma 13) ∧ DA ph cl (mi 4) (mi 10) (mi 11) (mi 17) (mi 18) (mi 19) (ma 20) (ma 40) (ma 41)) ∧ mi 12 = 0) → ∀ (ls : Array Slot), lv_has ls 3 [(0, .ref h0)] → (((mi 11).toInt - (mi 10).toInt).toNat) < n_7 → W p l e ({ frames := 3, cells := 0, slots := 0, locals := 75 }) s m #[(.ref h0 : Value)] below meth c H locs 0 0 QP (F0 m 7 ls []) := by
    intro n_7
    induction n_7 with
    | zero => intros; exact absurd ‹_ < 0› (Nat.not_lt_zero _)
    | succ n_7 ih_7 =>
      intro mi ma H locs hP hD hS hI hFI hFA hE hv ls hl hm
      rw [x_comes_7] at hE
      have y1 := MB_wayFirst hI
      have y2 := MB_wayEnd hI
      refine lv_aload_n hx hb dX11_comes_7 rfl (lv_at hl 0 rfl) ?_
      refine va_get (D := D) (ci := 11) (v := .int (mi 10)) (C := RX11) (T := TX11) (N := 74) hx hb ha inlX11 hown hK hP 0 mw_at0 rfl 10 (by decide) (ha _ kf_X11_242) (fun _ h9 => h9) rfl dX11_comes_8 ?_
      refine lv_topi (fun x_25 ex_25 => ?_)
      have hE := bd_at ex_25 hE
      have u_x_25 := congrArg Int32.toInt ex_25
      have r_x_25 := MB_wayFirst hI
      rw [← ex_25] at r_x_25
      refine lv_aload_n hx hb dX11_comes_11 rfl (lv_at hl 0 rfl) ?_
      refine va_get (D := D) (ci := 11) (v := .int (mi 11)) (C := RX11) (T := TX11) (N := 74) hx hb ha inlX11 hown hK hP 0 mw_at0 rfl 11 (by decide) (ha _ kf_X11_236) (fun _ h9 => h9) rfl dX11_comes_12 ?_
      refine lv_topi (fun x_26 ex_26 => ?_)
      have hE := bd_at ex_26 hE
      have u_x_26 := congrArg Int32.toInt ex_26
      have r_x_26 := MB_wayEnd hI
      rw [← ex_26] at r_x_26
      refine lv_icmp_ge (tgt := 84) hx hb dX11_comes_15 (by decide) (fun c_27 => ?_) (fun c_27 => ?_)
      · have t_c_27 := Int32.le_iff_toInt_le.mp c_27
        have hE := hE.trans (if_pos c_27)
        rw [hQP]
        exact W.vret hx hb hr (fun t ht hW => ⟨⟨(), rfl, trivial, ⟨mi, ma, ⟨⟨hI, fun k hk => (hFI k hk).trans (by rw [hmi0]), fun k hk => (hFA k hk).trans (by rw [hma0]), ⟨hv.1, dw_done hv.1.1 hv.2 y1.1 (fun w9 => by exfalso; omega)⟩⟩, _, hRES.symm.trans hE⟩, by rw [ht]; exact hP, va_K.moved hW.alike hK, hD⟩⟩, hS.F ht⟩) hS.2.2 dX11_comes_84
      · have t_c_27 := Int32.lt_iff_toInt_lt.mp (Int32.not_le.mp c_27)
        have hE := hE.trans (if_neg c_27)
        refine lv_aload_n hx hb dX11_comes_18 rfl (lv_at hl 0 rfl) ?_
        refine va_get (D := D) (ci := 11) (v := .ref (mq 13)) (C := RX11) (T := TX11) (N := 74) hx hb ha inlX11 hown hK hP 0 mw_at0 rfl 13 (by decide) (ha _ kf_X11_33) (fun _ h9 => h9) rfl dX11_comes_19 ?_
        refine lv_aload_n hx hb dX11_comes_22 rfl (lv_at hl 0 rfl) ?_
        refine va_get (D := D) (ci := 11) (v := .int (mi 10)) (C := RX11) (T := TX11) (N := 74) hx hb ha inlX11 hown hK hP 0 mw_at0 rfl 10 (by decide) (ha _ kf_X11_242) (fun _ h9 => h9) rfl dX11_comes_23 ?_
        refine lv_topi (fun x_28 ex_28 => ?_)
        have hE := bd_at ex_28 hE
        have u_x_28 := congrArg Int32.toInt ex_28
        have r_x_28 := MB_wayFirst hI
        rw [← ex_28] at r_x_28
        have hin_29 : vp_in x_28 4096 := vpi_of (by omega) (by omega)
        refine va_iald hx hb hK hP 4 0 mw_at13 rfl hin_29 dX11_comes_26 ?_
        refine lv_topi (fun x_30 ex_30 => ?_)
        have hE := bd_at ex_30 hE
        have u_x_30 := congrArg Int32.toInt ex_30
        refine lv_aload_n hx hb dX11_comes_27 rfl (lv_at hl 0 rfl) ?_
        refine va_get (D := D) (ci := 11) (v := .int (mi 4)) (C := RX11) (T := TX11) (N := 74) hx hb ha inlX11 hown hK hP 0 mw_at0 rfl 4 (by decide) (ha _ kf_X11_207) (fun _ h9 => h9) rfl dX11_comes_28 ?_
        refine lv_topi (fun x_31 ex_31 => ?_)
        have hE := bd_at ex_31 hE
        have u_x_31 := congrArg Int32.toInt ex_31
        have r_x_31 := MB_tick hI
        rw [← ex_31] at r_x_31
        refine lv_icmp_ne (tgt := 84) hx hb dX11_comes_31 (by decide) (fun c_32 => ?_) (fun c_32 => ?_)
        · have t_c_32 := mt Int32.toInt_inj.mp c_32
          have hE := hE.trans (if_neg c_32)
          rw [hQP]
          exact W.vret hx hb hr (fun t ht hW => ⟨⟨(), rfl, trivial, ⟨mi, ma, ⟨⟨hI, fun k hk => (hFI k hk).trans (by rw [hmi0]), fun k hk => (hFA k hk).trans (by rw [hma0]), ⟨hv.1, dw_done hv.1.1 hv.2 y1.1 (fun _ => by rw [← ex_28, ← ex_30, ← ex_31]; exact t_c_32)⟩⟩, _, hRES.symm.trans hE⟩, by rw [ht]; exact hP, va_K.moved hW.alike hK, hD⟩⟩, hS.F ht⟩) hS.2.2 dX11_comes_84
        · have t_c_32 := congrArg Int32.toInt c_32
          have hE := hE.trans (if_pos c_32)
          have hfl := MB_flw hI (by omega)
          have hln := dw_len hv.1.1 (by omega)
          refine lv_aload_n hx hb dX11_comes_34 rfl (lv_at hl 0 rfl) ?_
          refine lv_dup hx hb dX11_comes_35 rfl ?_
          refine va_get (D := D) (ci := 11) (v := .int (mi 10)) (C := RX11) (T := TX11) (N := 74) hx hb ha inlX11 hown hK hP 0 mw_at0 rfl 10 (by decide) (ha _ kf_X11_242) (fun _ h9 => h9) rfl dX11_comes_36 ?_
          refine lv_topi (fun x_33 ex_33 => ?_)
          have hE := bd_at ex_33 hE
          have u_x_33 := congrArg Int32.toInt ex_33
          have r_x_33 := MB_wayFirst hI
          rw [← ex_33] at r_x_33
          refine lv_iconst (v := 1) hx hb dX11_comes_39 (by decide) ?_
          refine lv_iadd hx hb dX11_comes_40 ?_
          refine lv_topi (fun x_34 ex_34 => ?_)
          have hE := bd_at ex_34 hE
          try have t_x_34 := ti_add ex_34 (by omega) (by omega)
          refine va_put (D := D) (ci := 11) (v := .int x_34) (ty := .int) (C := RX11) (T := TX11) (N := 74) hx hb ha inlX11 tyX11 tyX11_ok nmX11 hown hK hP hD hS 0 mw_at0 rfl 10 (by decide) (ha _ kf_X11_242) (fun _ h9 => h9) rfl (by decide +kernel) rfl rfl (Nat.le_of_ble_eq_true rfl) dX11_comes_41 (fun H locs hP hD hS => ?_)
          have hP : va_P D vwCl (mw cI cZ h0 mq (upd mi 10 x_34) ma) H := mwP_10 hP
          have hD : va_D A (mw cI cZ h0 mq (upd mi 10 x_34) ma) := mwD_10 hD
          generalize hmi_35 : upd mi 10 x_34 = mi_35 at hP hD
          have hI : MB mi_35 ma := by rw [← hmi_35]; exact MBi_wf hI (by omega) (by omega) hfl
          have hFI : ∀ k, k ∉ ([29, 17, 18, 19, 10, 11] : List Nat) → mi_35 k = mi0 k := fun k hk => by rw [← hmi_35]; exact (if_neg (fun e => hk (by rw [e]; decide))).trans (hFI k hk)
          have hE := bs_at hmi_35 hE
          have g4 : mi_35 4 = mi 4 := (congrFun hmi_35 4).symm
          have g11 : mi_35 11 = mi 11 := (congrFun hmi_35 11).symm
          have g12 : mi_35 12 = mi 12 := (congrFun hmi_35 12).symm
          have g32 : mi_35 32 = mi 32 := (congrFun hmi_35 32).symm
          have g17 : mi_35 17 = mi 17 := (congrFun hmi_35 17).symm
          have g18 : mi_35 18 = mi 18 := (congrFun hmi_35 18).symm
          have g19 : mi_35 19 = mi 19 := (congrFun hmi_35 19).symm
          have g10 : mi_35 10 = x_34 := (congrFun hmi_35 10).symm
          have f32 : 1 ≤ (mi_35 32).toInt := by rw [g32]; exact hfl
          have f4 := MB_flows hI
          have h10 := congrArg Int32.toInt g10
          have h11 := congrArg Int32.toInt g11
          have hW2 : DW ph (mi_35 4) (mi_35 10) (mi_35 11) (mi_35 12) (ma 13) := by rw [g4, g10, g11, g12]; exact dw_first hv.1.1 (by omega) (by omega)
          have hA2 : DA ph (cl + 1) (mi_35 4) (mi_35 10) (mi_35 11) (mi_35 17) (mi_35 18) (mi_35 19) (ma 20) (ma 40) (ma 41) := by rw [g4, g10, g11, g17, g18, g19]; exact da_wf hv.1.2 (by omega)
          have h12 : mi_35 12 = 0 := g12.trans hv.2
          refine lv_aload_n hx hb dX11_comes_44 rfl (lv_at hl 0 rfl) ?_
          refine lv_aload_n hx hb dX11_comes_45 rfl (lv_at hl 0 rfl) ?_
          refine va_get (D := D) (ci := 11) (v := .ref (mq 14)) (C := RX11) (T := TX11) (N := 74) hx hb ha inlX11 hown hK hP 0 mw_at0 rfl 14 (by decide) (ha _ kf_X11_36) (fun _ h9 => h9) rfl dX11_comes_46 ?_
          refine lv_aload_n hx hb dX11_comes_49 rfl (lv_at hl 0 rfl) ?_
          refine va_get (D := D) (ci := 11) (v := .int (mi_35 10)) (C := RX11) (T := TX11) (N := 74) hx hb ha inlX11 hown hK hP 0 mw_at0 rfl 10 (by decide) (ha _ kf_X11_242) (fun _ h9 => h9) rfl dX11_comes_50 ?_
          refine lv_topi (fun x_36 ex_36 => ?_)
          have hE := bd_at ex_36 hE
          have u_x_36 := congrArg Int32.toInt ex_36
          have r_x_36 := MB_wayFirst hI
          rw [← ex_36] at r_x_36
          refine lv_iconst (v := 1) hx hb dX11_comes_53 (by decide) ?_
          refine lv_isub hx hb dX11_comes_54 ?_
          refine lv_topi (fun x_37 ex_37 => ?_)
          have hE := bd_at ex_37 hE
          try have t_x_37 := ti_sub ex_37 (by omega) (by omega)
          have hin_38 : vp_in x_37 4096 := vpi_of (by omega) (by omega)
          refine va_iald hx hb hK hP 5 0 mw_at14 rfl hin_38 dX11_comes_55 ?_
          refine lv_topi (fun x_39 ex_39 => ?_)
          have hE := bd_at ex_39 hE
          have u_x_39 := congrArg Int32.toInt ex_39
          have r_x_39 := fw_ld (MB_wayFlow hI) hin_38 ex_39
          refine lv_aload_n hx hb dX11_comes_56 rfl (lv_at hl 0 rfl) ?_
          refine va_get (D := D) (ci := 11) (v := .ref (mq 15)) (C := RX11) (T := TX11) (N := 74) hx hb ha inlX11 hown hK hP 0 mw_at0 rfl 15 (by decide) (ha _ kf_X11_39) (fun _ h9 => h9) rfl dX11_comes_57 ?_
          refine lv_aload_n hx hb dX11_comes_60 rfl (lv_at hl 0 rfl) ?_
          refine va_get (D := D) (ci := 11) (v := .int (mi_35 10)) (C := RX11) (T := TX11) (N := 74) hx hb ha inlX11 hown hK hP 0 mw_at0 rfl 10 (by decide) (ha _ kf_X11_242) (fun _ h9 => h9) rfl dX11_comes_61 ?_
          refine lv_topi (fun x_40 ex_40 => ?_)
          have hE := bd_at ex_40 hE
          have u_x_40 := congrArg Int32.toInt ex_40
          have r_x_40 := MB_wayFirst hI
          rw [← ex_40] at r_x_40
          refine lv_iconst (v := 1) hx hb dX11_comes_64 (by decide) ?_
          refine lv_isub hx hb dX11_comes_65 ?_
          refine lv_topi (fun x_41 ex_41 => ?_)
          have hE := bd_at ex_41 hE
          try have t_x_41 := ti_sub ex_41 (by omega) (by omega)
          have hin_42 : vp_in x_41 4096 := vpi_of (by omega) (by omega)
          refine va_iald hx hb hK hP 6 0 mw_at15 rfl hin_42 dX11_comes_66 ?_
          refine lv_topi (fun x_43 ex_43 => ?_)
          have hE := bd_at ex_43 hE
          have u_x_43 := congrArg Int32.toInt ex_43
          have r_x_43 := rg_ld (MB_waySegment hI) hin_42 ex_43
          refine lv_aload_n hx hb dX11_comes_67 rfl (lv_at hl 0 rfl) ?_
          refine va_get (D := D) (ci := 11) (v := .ref (mq 16)) (C := RX11) (T := TX11) (N := 74) hx hb ha inlX11 hown hK hP 0 mw_at0 rfl 16 (by decide) (ha _ kf_X11_42) (fun _ h9 => h9) rfl dX11_comes_68 ?_
          refine lv_aload_n hx hb dX11_comes_71 rfl (lv_at hl 0 rfl) ?_
          refine va_get (D := D) (ci := 11) (v := .int (mi_35 10)) (C := RX11) (T := TX11) (N := 74) hx hb ha inlX11 hown hK hP 0 mw_at0 rfl 10 (by decide) (ha _ kf_X11_242) (fun _ h9 => h9) rfl dX11_comes_72 ?_
          refine lv_topi (fun x_44 ex_44 => ?_)
          have hE := bd_at ex_44 hE
          have u_x_44 := congrArg Int32.toInt ex_44
          have r_x_44 := MB_wayFirst hI
          rw [← ex_44] at r_x_44
          refine lv_iconst (v := 1) hx hb dX11_comes_75 (by decide) ?_
          refine lv_isub hx hb dX11_comes_76 ?_
          refine lv_topi (fun x_45 ex_45 => ?_)
          have hE := bd_at ex_45 hE
          try have t_x_45 := ti_sub ex_45 (by omega) (by omega)
          have hin_46 : vp_in x_45 4096 := vpi_of (by omega) (by omega)
          refine va_zald hx hb hK hP 7 2 mw_at16 rfl hin_46 dX11_comes_77 ?_
          refine lv_topi (fun x_47 ex_47 => ?_)
          have hE := bd_at ex_47 hE
          have u_x_47 := congrArg Int32.toInt ex_47
          have hFc := va_freeW hD hS hA
          refine va_callv (va_runV (As := [.int x_39, .int x_43, .int x_47]) (rest := []) ⟨hx, hb, hml, hown, ha⟩ (m_receives l D cI cJ cZ cO _ h0 mq mi_35 ma ph cl x_39 x_43 x_47 hI (by omega) (by omega) (by omega) (by omega) (by omega) hph (by omega) hc2 (by omega) (by omega) hA2) (cwV 3 ha (gaV kl_X11_253 km_X11_receives ks_X11_receives kz_X11 kd_X11_receives) rfl rfl rfl (by decide +kernel) ⟨Nat.le_of_ble_eq_true rfl, Nat.le_of_ble_eq_true rfl⟩) ⟨pw_blind, va_recv hK hP (ci := 11) (q0 := 0) rfl rfl, fun U hU hW => ⟨rfl, pw_start hU hW hP hK hD hN⟩⟩ rfl rfl hl.1 rfl (lv_room (Nat.le_of_ble_eq_true rfl)) dX11_comes_78 ⟨Nat.le_of_ble_eq_true rfl, Nat.le_of_ble_eq_true rfl⟩) hS (fun q _ h => hFc q h) hFc (fun u t H1 locs ht hvm hw hB hz1 hk1 hS => ?_)
          obtain ⟨mi_49, ma_50, ⟨hf_51, rr_, hX⟩, hP, hK1, hD1⟩ := hB
          have hE := bo_at hX hE
          rw [ht] at hP
          have hD := hD1.weaken (fun k q _ h => hFc q.1 h)
          clear hD1
          generalize H1 = H at hP hS ⊢
          refine W.widen (k := 0) (n := 0) (Nat.le_refl _) (Nat.le_refl _) ?_
          have hI := hf_51.1
          have hFI : ∀ k, k ∉ ([29, 17, 18, 19, 10, 11] : List Nat) → mi_49 k = mi0 k := fun k hk => (hf_51.2.1 k (fun h => hk (by revert h; exact sub_of (by decide) k))).trans (hFI k hk)
          have hFA : ∀ k, k ∉ ([38, 39, 36, 34, 13, 14, 15, 16, 40, 37, 20, 21, 22, 23, 24, 25] : List Nat) → ma_50 k = ma0 k := fun k hk => (hf_51.2.2.1 k (fun h => hk (by revert h; exact sub_of (by decide) k))).trans (hFA k hk)
          have s10 := congrArg Int32.toInt (hf_51.2.1 10 (by decide))
          have s11 := congrArg Int32.toInt (hf_51.2.1 11 (by decide))
          refine lv_goto (tgt := 7) hx hb dX11_comes_81 (by decide) ?_
          exact ih_7 mi_49 ma_50  _ _ hP hD hS hI hFI hFA hE ⟨⟨dw_keep hW2 ((hf_51.2.1 4 (by decide))) ((hf_51.2.1 10 (by decide))) ((hf_51.2.1 11 (by decide))) ((hf_51.2.1 12 (by decide))) ((hf_51.2.2.1 13 (by decide))), hf_51.2.2.2⟩, ((hf_51.2.1 12 (by decide))).trans h12⟩ _ (lv_sub hl [0] rfl) (by omega)
  -- from the entry
  rw [hQP] at J_7
  rw [hQP] at J_95
  have hE := hRES
  unfold x_comes at hE
  have hE := ax_at (⟨hI, _, _, hU⟩) hE
  refine lv_aload_n hx hb dX11_comes_0 rfl (lv_at hl 0 rfl) ?_
  refine va_get (D := D) (ci := 11) (v := .int (mi 12)) (C := RX11) (T := TX11) (N := 74) hx hb ha inlX11 hown hK hP 0 mw_at0 rfl 12 (by decide) (ha _ kf_X11_245) (fun _ h9 => h9) rfl dX11_comes_1 ?_
  refine lv_topi (fun x_52 ex_52 => ?_)
  have hE := bd_at ex_52 hE
  have u_x_52 := congrArg Int32.toInt ex_52
  refine lv_if_ne (tgt := 85) hx hb dX11_comes_4 (by decide) (fun c_53 => ?_) (fun c_53 => ?_)
  · have t_c_53 := mt Int32.toInt_inj.mp c_53
    have hE := hE.trans (if_neg c_53)
    refine lv_aload_n hx hb dX11_comes_85 rfl (lv_at hl 0 rfl) ?_
    refine va_get (D := D) (ci := 11) (v := .int (mi 10)) (C := RX11) (T := TX11) (N := 74) hx hb ha inlX11 hown hK hP 0 mw_at0 rfl 10 (by decide) (ha _ kf_X11_242) (fun _ h9 => h9) rfl dX11_comes_86 ?_
    refine lv_topi (fun x_54 ex_54 => ?_)
    have hE := bd_at ex_54 hE
    have u_x_54 := congrArg Int32.toInt ex_54
    have r_x_54 := MB_wayFirst hI
    rw [← ex_54] at r_x_54
    refine lv_istore_n (lv' := [(1, .int x_54), (0, .ref h0)]) hx hb dX11_comes_89 rfl hl (by decide) rfl (fun ls hl => ?_)
    refine lv_aload_n hx hb dX11_comes_90 rfl (lv_at hl 1 rfl) ?_
    refine va_get (D := D) (ci := 11) (v := .int (mi 10)) (C := RX11) (T := TX11) (N := 74) hx hb ha inlX11 hown hK hP 0 mw_at0 rfl 10 (by decide) (ha _ kf_X11_242) (fun _ h9 => h9) rfl dX11_comes_91 ?_
    refine lv_topi (fun x_55 ex_55 => ?_)
    have hE := bd_at ex_55 hE
    have u_x_55 := congrArg Int32.toInt ex_55
    have r_x_55 := MB_wayFirst hI
    rw [← ex_55] at r_x_55
    refine lv_istore_n (lv' := [(2, .int x_55), (1, .int x_54), (0, .ref h0)]) hx hb dX11_comes_94 rfl hl (by decide) rfl (fun ls hl => ?_)
    exact J_95 5000 mi ma x_54 x_55 _ _ hP hD hS hI hFI hFA hE ⟨by rw [ex_54, ex_55]; exact dw_ca hU.1, by have y8 := dw_len hU.1 y1.1; omega, fun q => c_53 (ex_52.trans q), da_sw hU.2 (by omega)⟩ _ (lv_sub hl [2, 1, 0] rfl) (by omega)
  · have t_c_53 := congrArg Int32.toInt c_53
    have hE := hE.trans (if_pos c_53)
    exact J_7 5000 mi ma  _ _ hP hD hS hI hFI hFA hE ⟨hU, ex_52.symm.trans c_53⟩ _ (lv_sub hl [0] rfl) (by omega)

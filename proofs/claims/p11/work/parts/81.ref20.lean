theorem MBi_tk {mi : Nat → Int32} {ma : Nat → Nat → Int32} {v : Int32} (h : MB mi ma) (h1 : 0 ≤ v.toInt) (h2 : v.toInt ≤ 100000000) : MB (upd mi 4 v) ma := ⟨h.1, h.2.1, h.2.2.1, h.2.2.2.1, h.2.2.2.2.1, h.2.2.2.2.2.1, ⟨h1, h2⟩, h.2.2.2.2.2.2.2.1, h.2.2.2.2.2.2.2.2.1, h.2.2.2.2.2.2.2.2.2.1, h.2.2.2.2.2.2.2.2.2.2.1, h.2.2.2.2.2.2.2.2.2.2.2.1, h.2.2.2.2.2.2.2.2.2.2.2.2.1, h.2.2.2.2.2.2.2.2.2.2.2.2.2.1, h.2.2.2.2.2.2.2.2.2.2.2.2.2.2.1, h.2.2.2.2.2.2.2.2.2.2.2.2.2.2.2.1, h.2.2.2.2.2.2.2.2.2.2.2.2.2.2.2.2.1, h.2.2.2.2.2.2.2.2.2.2.2.2.2.2.2.2.2.1, h.2.2.2.2.2.2.2.2.2.2.2.2.2.2.2.2.2.2.1, h.2.2.2.2.2.2.2.2.2.2.2.2.2.2.2.2.2.2.2.1, h.2.2.2.2.2.2.2.2.2.2.2.2.2.2.2.2.2.2.2.2.1, h.2.2.2.2.2.2.2.2.2.2.2.2.2.2.2.2.2.2.2.2.2.1, h.2.2.2.2.2.2.2.2.2.2.2.2.2.2.2.2.2.2.2.2.2.2.1, h.2.2.2.2.2.2.2.2.2.2.2.2.2.2.2.2.2.2.2.2.2.2.2.1, h.2.2.2.2.2.2.2.2.2.2.2.2.2.2.2.2.2.2.2.2.2.2.2.2.1, h.2.2.2.2.2.2.2.2.2.2.2.2.2.2.2.2.2.2.2.2.2.2.2.2.2.1, h.2.2.2.2.2.2.2.2.2.2.2.2.2.2.2.2.2.2.2.2.2.2.2.2.2.2.1, h.2.2.2.2.2.2.2.2.2.2.2.2.2.2.2.2.2.2.2.2.2.2.2.2.2.2.2.1, h.2.2.2.2.2.2.2.2.2.2.2.2.2.2.2.2.2.2.2.2.2.2.2.2.2.2.2.2.1, h.2.2.2.2.2.2.2.2.2.2.2.2.2.2.2.2.2.2.2.2.2.2.2.2.2.2.2.2.2.1, h.2.2.2.2.2.2.2.2.2.2.2.2.2.2.2.2.2.2.2.2.2.2.2.2.2.2.2.2.2.2.1, h.2.2.2.2.2.2.2.2.2.2.2.2.2.2.2.2.2.2.2.2.2.2.2.2.2.2.2.2.2.2.2.1, h.2.2.2.2.2.2.2.2.2.2.2.2.2.2.2.2.2.2.2.2.2.2.2.2.2.2.2.2.2.2.2.2.1, h.2.2.2.2.2.2.2.2.2.2.2.2.2.2.2.2.2.2.2.2.2.2.2.2.2.2.2.2.2.2.2.2.2.1, h.2.2.2.2.2.2.2.2.2.2.2.2.2.2.2.2.2.2.2.2.2.2.2.2.2.2.2.2.2.2.2.2.2.2⟩

set_option maxRecDepth 100000 in
noncomputable def x_run_t (n1 : Int32) : Nat → Nat → (Nat → Int32) → (Nat → Nat → Int32) → Int32 → Int32 → Int32 → (Option XT)
  | 0, _, mi, ma, _, _, _ => none
  | fu + 1, tg, mi, ma, i2, i3, i4 => if tg = 31 then ax (MB mi ma ∧ ∃ cl : Int, DW 0 (mi 4) (mi 10) (mi 11) (mi 12) (ma 13) ∧ DA 0 cl (mi 4) (mi 10) (mi 11) (mi 17) (mi 18) (mi 19) (ma 20) (ma 40) (ma 41)) ((if n1 ≤ i3 then bd (mi 26) (fun v1 => bd (v1 - i2) (fun v2 => some (mi, ma, v2))) else bo (x_goes mi ma) (fun m3 a4 _ => bo (x_comes m3 a4) (fun m6 a7 _ => bo (x_answers m6 a7) (fun m9 a10 _ => bo (x_hears m9 a10) (fun m12 a13 _ => x_run_t n1 fu 55 m12 a13 i2 i3 (0 : Int32))))))) else if tg = 55 then bd (mi 32) (fun v15 => (if v15 ≤ i4 then x_run_t n1 fu 93 mi ma i2 i3 (0 : Int32) else bd (ma 61 i4.toNatClampNeg) (fun v16 => bd (mi 4) (fun v17 => (if v16 = v17 then bo (x_due i4 mi ma) (fun m19 a20 _ => bd (i4 + 1) (fun v22 => x_run_t n1 fu 55 m19 a20 i2 i3 v22)) else bd (i4 + 1) (fun v18 => x_run_t n1 fu 55 mi ma i2 i3 v18)))))) else bd (mi 32) (fun v23 => (if v23 ≤ i4 then bd (mi 4) (fun v24 => bd (v24 + (1 : Int32)) (fun v25 => bd (upd mi 4 v25) (fun m26 => bd (i3 + 1) (fun v27 => x_run_t n1 fu 31 m26 ma i2 v27 0)))) else bo (x_sends i4 mi ma) (fun m28 a29 _ => bd (i4 + 1) (fun v31 => x_run_t n1 fu 93 m28 a29 i2 i3 v31))))
set_option maxRecDepth 100000 in
noncomputable def x_run (n1 : Int32) (mi : Nat → Int32) (ma : Nat → Nat → Int32) : (Option XT) := bd (wi n1 (1 : Int32) (20000 : Int32)) (fun v32 => (if v32 = (0 : Int32) then some (mi, ma, ((-1) : Int32)) else bd (mi 4) (fun v33 => bd (v33 + n1) (fun v34 => (if v34 ≤ (100000000 : Int32) then bd (mi 26) (fun v35 => x_run_t n1 3000000 31 mi ma v35 (0 : Int32) 0) else some (mi, ma, ((-1) : Int32)))))))
set_option maxHeartbeats 4000000 in
set_option maxRecDepth 100000 in
theorem m_run (l : Launch) (D : va_G) (cI cJ cZ cO : ClassId) (sz : Nat) (h0 : Nat) (mq : Nat → Nat) (mi : Nat → Int32) (ma : Nat → Nat → Int32) (ph : Nat) (cl : Int) (n1 : Int32) (hI : MB mi ma) (hc1 : 0 ≤ cl) (hc2 : cl ≤ 512) (hU : (DW 0 (mi 4) (mi 10) (mi 11) (mi 12) (ma 13) ∧ DA 0 cl (mi 4) (mi 10) (mi 11) (mi 17) (mi 18) (mi 19) (ma 20) (ma 40) (ma 41))) : Met l yX11_run (wa yX11_run cX11_run 5 (some .int)) ({ frames := 7, cells := 0, slots := 0, locals := 164 }) (va_Pc [.ref h0, .int n1] (pw_s D cI cJ cZ cO sz (mw cI cZ h0 mq mi ma))) (va_Qi (fun (r : Int32) (_ : Unit) => ((True) ∧ ∃ m9 a9, (x_run n1 mi ma) = some (m9, a9, r))) (fun (_ : Unit) (t : State) => ∃ (mi2 : Nat → Int32) (ma2 : Nat → Nat → Int32), ((MB mi2 ma2 ∧ (∀ k, k ∉ ([4, 5, 6, 10, 11, 12, 17, 18, 19, 26, 27, 28, 29, 30, 73] : List Nat) → mi2 k = mi k) ∧ (∀ k, k ∉ ([7, 8, 9, 13, 14, 15, 16, 20, 21, 22, 23, 24, 25, 31, 34, 36, 37, 38, 39, 40, 41, 44, 45, 46, 47, 48, 49, 50, 51, 52, 53, 54, 55, 56, 57, 58, 59, 60, 61, 62, 63, 64, 65, 66, 67, 68, 69, 70, 71, 72] : List Nat) → ma2 k = ma k) ∧ (DW 0 (mi2 4) (mi2 10) (mi2 11) (mi2 12) (ma2 13) ∧ DA 0 cl (mi2 4) (mi2 10) (mi2 11) (mi2 17) (mi2 18) (mi2 19) (ma2 20) (ma2 40) (ma2 41))) ∧ ∃ rr : Int32, (x_run n1 mi ma) = some (mi2, ma2, rr)) ∧ pw_t D cI cJ cZ cO (va_A (mw cI cZ h0 mq mi ma) sz) (mw cI cZ h0 mq mi2 ma2) t) (va_A (mw cI cZ h0 mq mi ma) sz)) 0 0 (va_A (mw cI cZ h0 mq mi ma) sz) := by
  refine Met.ofW (cc := cX11_run) (maxL := 5) (ret := (some .int)) (by decide) rfl ?_
  intro p e s m args below meth c s₁ B hml hv
  obtain ⟨rfl, hsz, hP, hK, hD0, hN⟩ := hv
  have hx := B.exec
  have hb := B.bytes
  have hr := B.returns
  have hts := atoms_spec (ws := (wa yX11_run cX11_run 5 (some .int))) B.pre
  have ha : ∀ w ∈ wsL_law, w.before _ s = true := fun w h => hts w (List.mem_cons_of_mem _ h)
  have hown : s.vm.findClass RX11 = some m.cls := findClass_of_methodNamed B.named
  have hlocks := B.notSynchronized
  subst hsz
  have hD := hD0.self (sz := s.heap.size)
  generalize hAe : va_A (mw cI cZ h0 mq mi ma) s.heap.size = A at hD ⊢
  have hA : ∀ q : Nat, s.heap.size ≤ q → A q := fun q h => by rw [← hAe]; exact Or.inr h
  have hS : va_S A s.heap s.heap [] := va_S.rf
  have hP : va_P D vwCl (mw cI cZ h0 mq mi ma) s.heap := hP
  have hl := lv_entry ([.ref h0, .int n1]) (n := 5) (Nat.le_of_ble_eq_true rfl)
  rw [lg_entry_eq]
  generalize (lg_sl ([.ref h0, .int n1]) ++ List.replicate (5 - (lg_sl ([.ref h0, .int n1])).length) Slot.unset).toArray = ls at hl ⊢
  have hl : lv_has ls 5 [(0, .ref h0), (1, .int n1)] := hl
  have kc_m1 := tk_m1
  have kc_0 := tk_0
  have kc_1 := tk_1
  have kc_20000 := tk_20000
  have kc_100000000 := tk_100000000
  obtain ⟨mi0, hmi0⟩ : ∃ y, y = mi := ⟨_, rfl⟩
  obtain ⟨ma0, hma0⟩ : ∃ y, y = ma := ⟨_, rfl⟩
  have hFI : ∀ k, k ∉ ([4, 5, 6, 10, 11, 12, 17, 18, 19, 26, 27, 28, 29, 30, 73] : List Nat) → mi k = mi0 k := fun k _ => by rw [hmi0]
  have hFA : ∀ k, k ∉ ([7, 8, 9, 13, 14, 15, 16, 20, 21, 22, 23, 24, 25, 31, 34, 36, 37, 38, 39, 40, 41, 44, 45, 46, 47, 48, 49, 50, 51, 52, 53, 54, 55, 56, 57, 58, 59, 60, 61, 62, 63, 64, 65, 66, 67, 68, 69, 70, 71, 72] : List Nat) → ma k = ma0 k := fun k _ => by rw [hma0]
  obtain ⟨QP, hQP⟩ : ∃ y : State → Prop, y = (MQ below (va_Qi (fun (r : Int32) (_ : Unit) => ((True) ∧ ∃ m9 a9, (x_run n1 mi ma) = some (m9, a9, r))) (fun (_ : Unit) (t : State) => ∃ (mi2 : Nat → Int32) (ma2 : Nat → Nat → Int32), ((MB mi2 ma2 ∧ (∀ k, k ∉ ([4, 5, 6, 10, 11, 12, 17, 18, 19, 26, 27, 28, 29, 30, 73] : List Nat) → mi2 k = mi k) ∧ (∀ k, k ∉ ([7, 8, 9, 13, 14, 15, 16, 20, 21, 22, 23, 24, 25, 31, 34, 36, 37, 38, 39, 40, 41, 44, 45, 46, 47, 48, 49, 50, 51, 52, 53, 54, 55, 56, 57, 58, 59, 60, 61, 62, 63, 64, 65, 66, 67, 68, 69, 70, 71, 72] : List Nat) → ma2 k = ma k) ∧ (DW 0 (mi2 4) (mi2 10) (mi2 11) (mi2 12) (ma2 13) ∧ DA 0 cl (mi2 4) (mi2 10) (mi2 11) (mi2 17) (mi2 18) (mi2 19) (ma2 20) (ma2 40) (ma2 41))) ∧ ∃ rr : Int32, (x_run n1 mi ma) = some (mi2, ma2, rr)) ∧ pw_t D cI cJ cZ cO A (mw cI cZ h0 mq mi2 ma2) t) A) #[(.ref h0 : Value), (.int n1 : Value)] s 0 0 A) := ⟨_, rfl⟩
  obtain ⟨RES, hRES⟩ : ∃ y, y = (x_run n1 mi ma) := ⟨_, rfl⟩
  have y4 := MB_tick hI
  have JG_t : ∀ (n_t : Nat), (∀ (mi : Nat → Int32) (ma : Nat → Nat → Int32) (i2 : Int32) (i3 : Int32) (H : Heap) (locs : List Loc), va_P D vwCl (mw cI cZ h0 mq mi ma) H → va_D A (mw cI cZ h0 mq mi ma) → va_S A s.heap H locs → MB mi ma → (∀ k, k ∉ ([4, 5, 6, 10, 11, 12, 17, 18, 19, 26, 27, 28, 29, 30, 73] : List Nat) → mi k = mi0 k) → (∀ k, k ∉ ([7, 8, 9, 13, 14, 15, 16, 20, 21, 22, 23, 24, 25, 31, 34, 36, 37, 38, 39, 40, 41, 44, 45, 46, 47, 48, 49, 50, 51, 52, 53, 54, 55, 56, 57, 58, 59, 60, 61, 62, 63, 64, 65, 66, 67, 68, 69, 70, 71, 72] : List Nat) → ma k = ma0 k) → RES = x_run_t n1 n_t 31 mi ma i2 i3 0 → ((DW 0 (mi 4) (mi 10) (mi 11) (mi 12) (ma 13) ∧ DA 0 cl (mi 4) (mi 10) (mi 11) (mi 17) (mi 18) (mi 19) (ma 20) (ma 40) (ma 41)) ∧ 0 ≤ i3.toInt ∧ i3.toInt ≤ n1.toInt ∧ n1.toInt ≤ 20000 ∧ (mi 4).toInt + (n1.toInt - i3.toInt) ≤ 100000000) → ∀ (ls : Array Slot), lv_has ls 5 [(0, .ref h0), (1, .int n1), (2, .int i2), (3, .int i3)] → ((n1.toInt * 100 - i3.toInt * 100 + 99).toNat) < n_t → W p l e ({ frames := 7, cells := 0, slots := 0, locals := 164 }) s m #[(.ref h0 : Value), (.int n1 : Value)] below meth c H locs 0 0 QP (F0 m 31 ls [])) ∧ (∀ (mi : Nat → Int32) (ma : Nat → Nat → Int32) (i2 : Int32) (i3 : Int32) (i4 : Int32) (H : Heap) (locs : List Loc), va_P D vwCl (mw cI cZ h0 mq mi ma) H → va_D A (mw cI cZ h0 mq mi ma) → va_S A s.heap H locs → MB mi ma → (∀ k, k ∉ ([4, 5, 6, 10, 11, 12, 17, 18, 19, 26, 27, 28, 29, 30, 73] : List Nat) → mi k = mi0 k) → (∀ k, k ∉ ([7, 8, 9, 13, 14, 15, 16, 20, 21, 22, 23, 24, 25, 31, 34, 36, 37, 38, 39, 40, 41, 44, 45, 46, 47, 48, 49, 50, 51, 52, 53, 54, 55, 56, 57, 58, 59, 60, 61, 62, 63, 64, 65, 66, 67, 68, 69, 70, 71, 72] : List Nat) → ma k = ma0 k) → RES = x_run_t n1 n_t 55 mi ma i2 i3 i4 → ((DW 1 (mi 4) (mi 10) (mi 11) (mi 12) (ma 13) ∧ DA 1 cl (mi 4) (mi 10) (mi 11) (mi 17) (mi 18) (mi 19) (ma 20) (ma 40) (ma 41)) ∧ (∀ k : Nat, (mi 10).toInt ≤ k → (k : Int) < (mi 11).toInt → (mi 4).toInt < (ma 13 k).toInt) ∧ (∀ k : Nat, (mi 17).toInt ≤ k → (k : Int) < (mi 18).toInt → (mi 4).toInt < (ma 20 k).toInt) ∧ 0 ≤ i3.toInt ∧ i3.toInt < n1.toInt ∧ n1.toInt ≤ 20000 ∧ (mi 4).toInt + (n1.toInt - i3.toInt) ≤ 100000000 ∧ 0 ≤ i4.toInt ∧ i4.toInt ≤ 4) → ∀ (ls : Array Slot), lv_has ls 5 [(0, .ref h0), (1, .int n1), (2, .int i2), (3, .int i3), (4, .int i4)] → ((n1.toInt * 100 - i3.toInt * 100 + 50 - i4.toInt).toNat) < n_t → W p l e ({ frames := 7, cells := 0, slots := 0, locals := 164 }) s m #[(.ref h0 : Value), (.int n1 : Value)] below meth c H locs 0 0 QP (F0 m 55 ls [])) ∧ (∀ (mi : Nat → Int32) (ma : Nat → Nat → Int32) (i2 : Int32) (i3 : Int32) (i4 : Int32) (H : Heap) (locs : List Loc), va_P D vwCl (mw cI cZ h0 mq mi ma) H → va_D A (mw cI cZ h0 mq mi ma) → va_S A s.heap H locs → MB mi ma → (∀ k, k ∉ ([4, 5, 6, 10, 11, 12, 17, 18, 19, 26, 27, 28, 29, 30, 73] : List Nat) → mi k = mi0 k) → (∀ k, k ∉ ([7, 8, 9, 13, 14, 15, 16, 20, 21, 22, 23, 24, 25, 31, 34, 36, 37, 38, 39, 40, 41, 44, 45, 46, 47, 48, 49, 50, 51, 52, 53, 54, 55, 56, 57, 58, 59, 60, 61, 62, 63, 64, 65, 66, 67, 68, 69, 70, 71, 72] : List Nat) → ma k = ma0 k) → RES = x_run_t n1 n_t 93 mi ma i2 i3 i4 → ((DW 1 (mi 4) (mi 10) (mi 11) (mi 12) (ma 13) ∧ DA 1 cl (mi 4) (mi 10) (mi 11) (mi 17) (mi 18) (mi 19) (ma 20) (ma 40) (ma 41)) ∧ (∀ k : Nat, (mi 10).toInt ≤ k → (k : Int) < (mi 11).toInt → (mi 4).toInt < (ma 13 k).toInt) ∧ (∀ k : Nat, (mi 17).toInt ≤ k → (k : Int) < (mi 18).toInt → (mi 4).toInt < (ma 20 k).toInt) ∧ 0 ≤ i3.toInt ∧ i3.toInt < n1.toInt ∧ n1.toInt ≤ 20000 ∧ (mi 4).toInt + (n1.toInt - i3.toInt) ≤ 100000000 ∧ 0 ≤ i4.toInt ∧ i4.toInt ≤ 4) → ∀ (ls : Array Slot), lv_has ls 5 [(0, .ref h0), (1, .int n1), (2, .int i2), (3, .int i3), (4, .int i4)] → ((n1.toInt * 100 - i3.toInt * 100 + 10 - i4.toInt).toNat) < n_t → W p l e ({ frames := 7, cells := 0, slots := 0, locals := 164 }) s m #[(.ref h0 : Value), (.int n1 : Value)] below meth c H locs 0 0 QP (F0 m 93 ls [])) := by
    intro n_t
    induction n_t with
    | zero => exact ⟨(by intros; exact absurd ‹_ < 0› (Nat.not_lt_zero _)), (by intros; exact absurd ‹_ < 0› (Nat.not_lt_zero _)), (by intros; exact absurd ‹_ < 0› (Nat.not_lt_zero _))⟩
    | succ n_t ih_t =>
      obtain ⟨ih_31, ih_55, ih_93⟩ := ih_t
      refine ⟨?_, ?_, ?_⟩
      · intro mi ma i2 i3 H locs hP hD hS hI hFI hFA hE hv ls hl hm
        rw [x_run_t] at hE
        have hE := hE.trans (if_pos rfl)
        have hE := ax_at (⟨hI, _, hv.1⟩) hE
        have vr := hv.2
        have vf := MB_flows hI
        have vt := MB_tick hI
        refine lv_iload_n hx hb dX11_run_31 rfl (lv_at hl 3 rfl) ?_
        refine lv_iload_n hx hb dX11_run_32 rfl (lv_at hl 1 rfl) ?_
        refine lv_icmp_ge (tgt := 130) hx hb dX11_run_33 (by decide) (fun c_1 => ?_) (fun c_1 => ?_)
        · have t_c_1 := Int32.le_iff_toInt_le.mp c_1
          have hE := hE.trans (if_pos c_1)
          refine lv_aload_n hx hb dX11_run_130 rfl (lv_at hl 0 rfl) ?_
          refine va_get (D := D) (ci := 11) (v := .int (mi 26)) (C := RX11) (T := TX11) (N := 74) hx hb ha inlX11 hown hK hP 0 mw_at0 rfl 26 (by decide) (ha _ kf_X11_201) (fun _ h9 => h9) rfl dX11_run_131 ?_
          refine lv_topi (fun x_2 ex_2 => ?_)
          have hE := bd_at ex_2 hE
          have u_x_2 := congrArg Int32.toInt ex_2
          refine lv_iload_n hx hb dX11_run_134 rfl (lv_at hl 2 rfl) ?_
          refine lv_isub hx hb dX11_run_135 ?_
          refine lv_topi (fun x_3 ex_3 => ?_)
          have hE := bd_at ex_3 hE
          rw [hQP]
          exact W.iret (v := x_3) hx hb hr (fun t ht hW => ⟨⟨x_3, (), rfl, ⟨trivial, _, _, hRES.symm.trans hE⟩, ⟨mi, ma, ⟨⟨hI, fun k hk => (hFI k hk).trans (by rw [hmi0]), fun k hk => (hFA k hk).trans (by rw [hma0]), hv.1⟩, _, hRES.symm.trans hE⟩, by rw [ht]; exact hP, va_K.moved hW.alike hK, hD⟩⟩, hS.F ht⟩) hS.2.2 dX11_run_136
        · have t_c_1 := Int32.lt_iff_toInt_lt.mp (Int32.not_le.mp c_1)
          have hE := hE.trans (if_neg c_1)
          refine lv_aload_n hx hb dX11_run_36 rfl (lv_at hl 0 rfl) ?_
          have hFc := va_freeW hD hS hA
          refine va_callv (va_runV (As := []) (rest := []) ⟨hx, hb, hml, hown, ha⟩ (m_goes l D cI cJ cZ cO _ h0 mq mi ma 1 cl  hI hv.1) (cwV 0 ha (gaV kl_X11_211 km_X11_goes ks_X11_goes kz_X11 kd_X11_goes) rfl rfl rfl (by decide +kernel) ⟨Nat.le_of_ble_eq_true rfl, Nat.le_of_ble_eq_true rfl⟩) ⟨pw_blind, va_recv hK hP (ci := 11) (q0 := 0) rfl rfl, fun U hU hW => ⟨rfl, pw_start hU hW hP hK hD hN⟩⟩ rfl rfl hl.1 rfl (lv_room (Nat.le_of_ble_eq_true rfl)) dX11_run_37 ⟨Nat.le_of_ble_eq_true rfl, Nat.le_of_ble_eq_true rfl⟩) hS (fun q _ h => hFc q h) hFc (fun u t H1 locs ht hvm hw hB hz1 hk1 hS => ?_)
          obtain ⟨mi_5, ma_6, ⟨hf_7, rr_, hX⟩, hP, hK1, hD1⟩ := hB
          have hE := bo_at hX hE
          rw [ht] at hP
          have hD := hD1.weaken (fun k q _ h => hFc q.1 h)
          clear hD1
          generalize H1 = H at hP hS ⊢
          refine W.widen (k := 0) (n := 0) (Nat.le_refl _) (Nat.le_refl _) ?_
          have hI := hf_7.1
          have hFI : ∀ k, k ∉ ([4, 5, 6, 10, 11, 12, 17, 18, 19, 26, 27, 28, 29, 30, 73] : List Nat) → mi_5 k = mi0 k := fun k hk => (hf_7.2.1 k (fun h => hk (by revert h; exact sub_of (by decide) k))).trans (hFI k hk)
          have hFA : ∀ k, k ∉ ([7, 8, 9, 13, 14, 15, 16, 20, 21, 22, 23, 24, 25, 31, 34, 36, 37, 38, 39, 40, 41, 44, 45, 46, 47, 48, 49, 50, 51, 52, 53, 54, 55, 56, 57, 58, 59, 60, 61, 62, 63, 64, 65, 66, 67, 68, 69, 70, 71, 72] : List Nat) → ma_6 k = ma0 k := fun k hk => (hf_7.2.2.1 k (fun h => hk (by revert h; exact sub_of (by decide) k))).trans (hFA k hk)
          have d1 := hf_7.2.2.2
          have tk1 := congrArg Int32.toInt (hf_7.2.1 4 (by decide))
          have ln1 := dw_len d1.1 (MB_wayFirst hI).1
          have tqgoes := congrArg Int32.toInt (hf_7.2.1 4 (by decide))
          refine lv_aload_n hx hb dX11_run_40 rfl (lv_at hl 0 rfl) ?_
          have hFc := va_freeW hD hS hA
          refine va_callv (va_runV (As := []) (rest := []) ⟨hx, hb, hml, hown, ha⟩ (m_comes l D cI cJ cZ cO _ h0 mq mi_5 ma_6 1 cl  hI (by decide) hc1 hc2 d1) (cwV 0 ha (gaV kl_X11_214 km_X11_comes ks_X11_comes kz_X11 kd_X11_comes) rfl rfl rfl (by decide +kernel) ⟨Nat.le_of_ble_eq_true rfl, Nat.le_of_ble_eq_true rfl⟩) ⟨pw_blind, va_recv hK hP (ci := 11) (q0 := 0) rfl rfl, fun U hU hW => ⟨rfl, pw_start hU hW hP hK hD hN⟩⟩ rfl rfl hl.1 rfl (lv_room (Nat.le_of_ble_eq_true rfl)) dX11_run_41 ⟨Nat.le_of_ble_eq_true rfl, Nat.le_of_ble_eq_true rfl⟩) hS (fun q _ h => hFc q h) hFc (fun u t H1 locs ht hvm hw hB hz1 hk1 hS => ?_)
          obtain ⟨mi_9, ma_10, ⟨hf_11, rr_, hX⟩, hP, hK1, hD1⟩ := hB
          have hE := bo_at hX hE
          rw [ht] at hP
          have hD := hD1.weaken (fun k q _ h => hFc q.1 h)
          clear hD1
          generalize H1 = H at hP hS ⊢
          refine W.widen (k := 0) (n := 0) (Nat.le_refl _) (Nat.le_refl _) ?_
          have hI := hf_11.1
          have hFI : ∀ k, k ∉ ([4, 5, 6, 10, 11, 12, 17, 18, 19, 26, 27, 28, 29, 30, 73] : List Nat) → mi_9 k = mi0 k := fun k hk => (hf_11.2.1 k (fun h => hk (by revert h; exact sub_of (by decide) k))).trans (hFI k hk)
          have hFA : ∀ k, k ∉ ([7, 8, 9, 13, 14, 15, 16, 20, 21, 22, 23, 24, 25, 31, 34, 36, 37, 38, 39, 40, 41, 44, 45, 46, 47, 48, 49, 50, 51, 52, 53, 54, 55, 56, 57, 58, 59, 60, 61, 62, 63, 64, 65, 66, 67, 68, 69, 70, 71, 72] : List Nat) → ma_10 k = ma0 k := fun k hk => (hf_11.2.2.1 k (fun h => hk (by revert h; exact sub_of (by decide) k))).trans (hFA k hk)
          have d2 := hf_11.2.2.2
          have ln2 := dw_len d2.1.1 (MB_wayFirst hI).1
          have tqcomes := congrArg Int32.toInt (hf_11.2.1 4 (by decide))
          refine lv_aload_n hx hb dX11_run_44 rfl (lv_at hl 0 rfl) ?_
          have hFc := va_freeW hD hS hA
          refine va_callv (va_runV (As := []) (rest := []) ⟨hx, hb, hml, hown, ha⟩ (m_answers l D cI cJ cZ cO _ h0 mq mi_9 ma_10 1 cl  hI (by decide) hc1 hc2 d2.1.1.1 (by omega) d2.1.2) (cwV 0 ha (gaV kl_X11_217 km_X11_answers ks_X11_answers kz_X11 kd_X11_answers) rfl rfl rfl (by decide +kernel) ⟨Nat.le_of_ble_eq_true rfl, Nat.le_of_ble_eq_true rfl⟩) ⟨pw_blind, va_recv hK hP (ci := 11) (q0 := 0) rfl rfl, fun U hU hW => ⟨rfl, pw_start hU hW hP hK hD hN⟩⟩ rfl rfl hl.1 rfl (lv_room (Nat.le_of_ble_eq_true rfl)) dX11_run_45 ⟨Nat.le_of_ble_eq_true rfl, Nat.le_of_ble_eq_true rfl⟩) hS (fun q _ h => hFc q h) hFc (fun u t H1 locs ht hvm hw hB hz1 hk1 hS => ?_)
          obtain ⟨mi_13, ma_14, ⟨hf_15, rr_, hX⟩, hP, hK1, hD1⟩ := hB
          have hE := bo_at hX hE
          rw [ht] at hP
          have hD := hD1.weaken (fun k q _ h => hFc q.1 h)
          clear hD1
          generalize H1 = H at hP hS ⊢
          refine W.widen (k := 0) (n := 0) (Nat.le_refl _) (Nat.le_refl _) ?_
          have hI := hf_15.1
          have hFI : ∀ k, k ∉ ([4, 5, 6, 10, 11, 12, 17, 18, 19, 26, 27, 28, 29, 30, 73] : List Nat) → mi_13 k = mi0 k := fun k hk => (hf_15.2.1 k (fun h => hk (by revert h; exact sub_of (by decide) k))).trans (hFI k hk)
          have hFA : ∀ k, k ∉ ([7, 8, 9, 13, 14, 15, 16, 20, 21, 22, 23, 24, 25, 31, 34, 36, 37, 38, 39, 40, 41, 44, 45, 46, 47, 48, 49, 50, 51, 52, 53, 54, 55, 56, 57, 58, 59, 60, 61, 62, 63, 64, 65, 66, 67, 68, 69, 70, 71, 72] : List Nat) → ma_14 k = ma0 k := fun k hk => (hf_15.2.2.1 k (fun h => hk (by revert h; exact sub_of (by decide) k))).trans (hFA k hk)
          have d3 := hf_15.2.2.2
          have w3 : DW 1 (mi_13 4) (mi_13 10) (mi_13 11) (mi_13 12) (ma_14 13) := dw_keep d2.1.1 ((hf_15.2.1 4 (by decide))) ((hf_15.2.1 10 (by decide))) ((hf_15.2.1 11 (by decide))) ((hf_15.2.1 12 (by decide))) ((hf_15.2.2.1 13 (by decide)))
          have n3 : ∀ k : Nat, (mi_13 10).toInt ≤ k → (k : Int) < (mi_13 11).toInt → (mi_13 4).toInt < (ma_14 13 k).toInt := by rw [hf_15.2.1 4 (by decide), hf_15.2.1 10 (by decide), hf_15.2.1 11 (by decide), hf_15.2.2.1 13 (by decide)]; exact d2.2
          have tqanswers := congrArg Int32.toInt (hf_15.2.1 4 (by decide))
          refine lv_aload_n hx hb dX11_run_48 rfl (lv_at hl 0 rfl) ?_
          have hFc := va_freeW hD hS hA
          refine va_callv (va_runV (As := []) (rest := []) ⟨hx, hb, hml, hown, ha⟩ (m_hears l D cI cJ cZ cO _ h0 mq mi_13 ma_14 1 cl  hI d3) (cwV 0 ha (gaV kl_X11_220 km_X11_hears ks_X11_hears kz_X11 kd_X11_hears) rfl rfl rfl (by decide +kernel) ⟨Nat.le_of_ble_eq_true rfl, Nat.le_of_ble_eq_true rfl⟩) ⟨pw_blind, va_recv hK hP (ci := 11) (q0 := 0) rfl rfl, fun U hU hW => ⟨rfl, pw_start hU hW hP hK hD hN⟩⟩ rfl rfl hl.1 rfl (lv_room (Nat.le_of_ble_eq_true rfl)) dX11_run_49 ⟨Nat.le_of_ble_eq_true rfl, Nat.le_of_ble_eq_true rfl⟩) hS (fun q _ h => hFc q h) hFc (fun u t H1 locs ht hvm hw hB hz1 hk1 hS => ?_)
          obtain ⟨mi_17, ma_18, ⟨hf_19, rr_, hX⟩, hP, hK1, hD1⟩ := hB
          have hE := bo_at hX hE
          rw [ht] at hP
          have hD := hD1.weaken (fun k q _ h => hFc q.1 h)
          clear hD1
          generalize H1 = H at hP hS ⊢
          refine W.widen (k := 0) (n := 0) (Nat.le_refl _) (Nat.le_refl _) ?_
          have hI := hf_19.1
          have hFI : ∀ k, k ∉ ([4, 5, 6, 10, 11, 12, 17, 18, 19, 26, 27, 28, 29, 30, 73] : List Nat) → mi_17 k = mi0 k := fun k hk => (hf_19.2.1 k (fun h => hk (by revert h; exact sub_of (by decide) k))).trans (hFI k hk)
          have hFA : ∀ k, k ∉ ([7, 8, 9, 13, 14, 15, 16, 20, 21, 22, 23, 24, 25, 31, 34, 36, 37, 38, 39, 40, 41, 44, 45, 46, 47, 48, 49, 50, 51, 52, 53, 54, 55, 56, 57, 58, 59, 60, 61, 62, 63, 64, 65, 66, 67, 68, 69, 70, 71, 72] : List Nat) → ma_18 k = ma0 k := fun k hk => (hf_19.2.2.1 k (fun h => hk (by revert h; exact sub_of (by decide) k))).trans (hFA k hk)
          have d4 := hf_19.2.2.2
          have w4 : DW 1 (mi_17 4) (mi_17 10) (mi_17 11) (mi_17 12) (ma_18 13) := dw_keep w3 ((hf_19.2.1 4 (by decide))) ((hf_19.2.1 10 (by decide))) ((hf_19.2.1 11 (by decide))) ((hf_19.2.1 12 (by decide))) ((hf_19.2.2.1 13 (by decide)))
          have n4 : ∀ k : Nat, (mi_17 10).toInt ≤ k → (k : Int) < (mi_17 11).toInt → (mi_17 4).toInt < (ma_18 13 k).toInt := by rw [hf_19.2.1 4 (by decide), hf_19.2.1 10 (by decide), hf_19.2.1 11 (by decide), hf_19.2.2.1 13 (by decide)]; exact n3
          have tqhears := congrArg Int32.toInt (hf_19.2.1 4 (by decide))
          refine lv_iconst (v := 0) hx hb dX11_run_52 (by decide) ?_
          refine lv_istore (lv' := [(4, .int 0), (0, .ref h0), (1, .int n1), (2, .int i2), (3, .int i3)]) hx hb dX11_run_53 hl (by decide) rfl (fun ls hl => ?_)
          exact ih_55 mi_17 ma_18 i2 i3 (0 : Int32) _ _ hP hD hS hI hFI hFA hE ⟨⟨w4, d4.1⟩, n4, d4.2, by omega, by omega, by omega, by omega, by omega, by omega⟩ _ (lv_sub hl [1, 2, 3, 4, 0] rfl) (by omega)
      · intro mi ma i2 i3 i4 H locs hP hD hS hI hFI hFA hE hv ls hl hm
        rw [x_run_t] at hE
        have hE := hE.trans (if_neg (by decide))
        have hE := hE.trans (if_pos rfl)
        have vr := hv.2.2.2
        have vf := MB_flows hI
        have vt := MB_tick hI
        refine lv_iload hx hb dX11_run_55 (lv_at hl 4 rfl) ?_
        refine lv_aload_n hx hb dX11_run_57 rfl (lv_at hl 0 rfl) ?_
        refine va_get (D := D) (ci := 11) (v := .int (mi 32)) (C := RX11) (T := TX11) (N := 74) hx hb ha inlX11 hown hK hP 0 mw_at0 rfl 32 (by decide) (ha _ kf_X11_191) (fun _ h9 => h9) rfl dX11_run_58 ?_
        refine lv_topi (fun x_20 ex_20 => ?_)
        have hE := bd_at ex_20 hE
        have u_x_20 := congrArg Int32.toInt ex_20
        have r_x_20 := MB_flows hI
        rw [← ex_20] at r_x_20
        refine lv_icmp_ge (tgt := 90) hx hb dX11_run_61 (by decide) (fun c_21 => ?_) (fun c_21 => ?_)
        · have t_c_21 := Int32.le_iff_toInt_le.mp c_21
          have hE := hE.trans (if_pos c_21)
          refine lv_iconst (v := 0) hx hb dX11_run_90 (by decide) ?_
          refine lv_istore (lv' := [(4, .int 0), (0, .ref h0), (1, .int n1), (2, .int i2), (3, .int i3)]) hx hb dX11_run_91 hl (by decide) rfl (fun ls hl => ?_)
          exact ih_93 mi ma i2 i3 (0 : Int32) _ _ hP hD hS hI hFI hFA hE ⟨hv.1, hv.2.1, hv.2.2.1, by omega, by omega, by omega, by omega, by omega, by omega⟩ _ (lv_sub hl [1, 2, 3, 4, 0] rfl) (by omega)
        · have t_c_21 := Int32.lt_iff_toInt_lt.mp (Int32.not_le.mp c_21)
          have hE := hE.trans (if_neg c_21)
          refine lv_aload_n hx hb dX11_run_64 rfl (lv_at hl 0 rfl) ?_
          refine va_get (D := D) (ci := 11) (v := .ref (mq 61)) (C := RX11) (T := TX11) (N := 74) hx hb ha inlX11 hown hK hP 0 mw_at0 rfl 61 (by decide) (ha _ kf_X11_151) (fun _ h9 => h9) rfl dX11_run_65 ?_
          refine lv_iload hx hb dX11_run_68 (lv_at hl 4 rfl) ?_
          have hin_22 : vp_in i4 4 := vpi_of (by omega) (by omega)
          refine va_iald hx hb hK hP 43 0 mw_at61 rfl hin_22 dX11_run_70 ?_
          refine lv_topi (fun x_23 ex_23 => ?_)
          have hE := bd_at ex_23 hE
          have u_x_23 := congrArg Int32.toInt ex_23
          refine lv_aload_n hx hb dX11_run_71 rfl (lv_at hl 0 rfl) ?_
          refine va_get (D := D) (ci := 11) (v := .int (mi 4)) (C := RX11) (T := TX11) (N := 74) hx hb ha inlX11 hown hK hP 0 mw_at0 rfl 4 (by decide) (ha _ kf_X11_207) (fun _ h9 => h9) rfl dX11_run_72 ?_
          refine lv_topi (fun x_24 ex_24 => ?_)
          have hE := bd_at ex_24 hE
          have u_x_24 := congrArg Int32.toInt ex_24
          have r_x_24 := MB_tick hI
          rw [← ex_24] at r_x_24
          refine lv_icmp_ne (tgt := 84) hx hb dX11_run_75 (by decide) (fun c_25 => ?_) (fun c_25 => ?_)
          · have t_c_25 := mt Int32.toInt_inj.mp c_25
            have hE := hE.trans (if_neg c_25)
            obtain ⟨x_26, ex_26⟩ : ∃ y : Int32, y = i4 + 1 := ⟨_, rfl⟩
            have hE := bd_at ex_26 hE
            refine lv_iinc (v := x_26) (lv' := [(4, .int x_26), (0, .ref h0), (1, .int n1), (2, .int i2), (3, .int i3)]) hx hb dX11_run_84 hl (k := 4) rfl (by rw [ex_26]; rfl) (by decide) rfl (fun ls hl => ?_)
            try have t_x_26 := ti_add ex_26 (by omega) (by omega)
            refine lv_goto (tgt := 55) hx hb dX11_run_87 (by decide) ?_
            exact ih_55 mi ma i2 i3 x_26 _ _ hP hD hS hI hFI hFA hE ⟨hv.1, hv.2.1, hv.2.2.1, by omega, by omega, by omega, by omega, by omega, by omega⟩ _ (lv_sub hl [1, 2, 3, 4, 0] rfl) (by omega)
          · have t_c_25 := congrArg Int32.toInt c_25
            have hE := hE.trans (if_pos c_25)
            refine lv_aload_n hx hb dX11_run_78 rfl (lv_at hl 0 rfl) ?_
            refine lv_iload hx hb dX11_run_79 (lv_at hl 4 rfl) ?_
            have hFc := va_freeW hD hS hA
            refine va_callv (va_runV (As := [.int i4]) (rest := []) ⟨hx, hb, hml, hown, ha⟩ (m_due l D cI cJ cZ cO _ h0 mq mi ma ph cl i4 hI (by omega) (by omega) (by omega)) (cwV 1 ha (gaV kl_X11_223 km_X11_due ks_X11_due kz_X11 kd_X11_due) rfl rfl rfl (by decide +kernel) ⟨Nat.le_of_ble_eq_true rfl, Nat.le_of_ble_eq_true rfl⟩) ⟨pw_blind, va_recv hK hP (ci := 11) (q0 := 0) rfl rfl, fun U hU hW => ⟨rfl, pw_start hU hW hP hK hD hN⟩⟩ rfl rfl hl.1 rfl (lv_room (Nat.le_of_ble_eq_true rfl)) dX11_run_81 ⟨Nat.le_of_ble_eq_true rfl, Nat.le_of_ble_eq_true rfl⟩) hS (fun q _ h => hFc q h) hFc (fun u t H1 locs ht hvm hw hB hz1 hk1 hS => ?_)
            obtain ⟨mi_28, ma_29, ⟨hf_30, rr_, hX⟩, hP, hK1, hD1⟩ := hB
            have hE := bo_at hX hE
            rw [ht] at hP
            have hD := hD1.weaken (fun k q _ h => hFc q.1 h)
            clear hD1
            generalize H1 = H at hP hS ⊢
            refine W.widen (k := 0) (n := 0) (Nat.le_refl _) (Nat.le_refl _) ?_
            have hI := hf_30.1
            have hFI : ∀ k, k ∉ ([4, 5, 6, 10, 11, 12, 17, 18, 19, 26, 27, 28, 29, 30, 73] : List Nat) → mi_28 k = mi0 k := fun k hk => (hf_30.2.1 k (fun h => hk (by revert h; exact sub_of (by decide) k))).trans (hFI k hk)
            have hFA : ∀ k, k ∉ ([7, 8, 9, 13, 14, 15, 16, 20, 21, 22, 23, 24, 25, 31, 34, 36, 37, 38, 39, 40, 41, 44, 45, 46, 47, 48, 49, 50, 51, 52, 53, 54, 55, 56, 57, 58, 59, 60, 61, 62, 63, 64, 65, 66, 67, 68, 69, 70, 71, 72] : List Nat) → ma_29 k = ma0 k := fun k hk => (hf_30.2.2 k (fun h => hk (by revert h; exact sub_of (by decide) k))).trans (hFA k hk)
            obtain ⟨x_31, ex_31⟩ : ∃ y : Int32, y = i4 + 1 := ⟨_, rfl⟩
            have hE := bd_at ex_31 hE
            refine lv_iinc (v := x_31) (lv' := [(4, .int x_31), (0, .ref h0), (1, .int n1), (2, .int i2), (3, .int i3)]) hx hb dX11_run_84 hl (k := 4) rfl (by rw [ex_31]; rfl) (by decide) rfl (fun ls hl => ?_)
            try have t_x_31 := ti_add ex_31 (by omega) (by omega)
            refine lv_goto (tgt := 55) hx hb dX11_run_87 (by decide) ?_
            exact ih_55 mi_28 ma_29 i2 i3 x_31 _ _ hP hD hS hI hFI hFA hE ⟨due_keep hv.1 ((hf_30.2.1 4 (by decide))) ((hf_30.2.1 10 (by decide))) ((hf_30.2.1 11 (by decide))) ((hf_30.2.1 12 (by decide))) ((hf_30.2.1 17 (by decide))) ((hf_30.2.1 18 (by decide))) ((hf_30.2.1 19 (by decide))) ((hf_30.2.2 13 (by decide))) ((hf_30.2.2 20 (by decide))) ((hf_30.2.2 40 (by decide))) ((hf_30.2.2 41 (by decide))), by rw [show mi_28 4 = mi 4 from (hf_30.2.1 4 (by decide)), show mi_28 10 = mi 10 from (hf_30.2.1 10 (by decide)), show mi_28 11 = mi 11 from (hf_30.2.1 11 (by decide)), show ma_29 13 = ma 13 from (hf_30.2.2 13 (by decide))]; exact hv.2.1, by rw [show mi_28 4 = mi 4 from (hf_30.2.1 4 (by decide)), show mi_28 17 = mi 17 from (hf_30.2.1 17 (by decide)), show mi_28 18 = mi 18 from (hf_30.2.1 18 (by decide)), show ma_29 20 = ma 20 from (hf_30.2.2 20 (by decide))]; exact hv.2.2.1, by omega, by omega, by omega, by have tz : (mi_28 4).toInt = (mi 4).toInt := congrArg Int32.toInt ((hf_30.2.1 4 (by decide))); omega, by omega, by omega⟩ _ (lv_sub hl [1, 2, 3, 4, 0] rfl) (by omega)
      · intro mi ma i2 i3 i4 H locs hP hD hS hI hFI hFA hE hv ls hl hm
        rw [x_run_t] at hE
        have hE := hE.trans (if_neg (by decide))
        have hE := hE.trans (if_neg (by decide))
        have vr := hv.2.2.2
        have vf := MB_flows hI
        have vt := MB_tick hI
        refine lv_iload hx hb dX11_run_93 (lv_at hl 4 rfl) ?_
        refine lv_aload_n hx hb dX11_run_95 rfl (lv_at hl 0 rfl) ?_
        refine va_get (D := D) (ci := 11) (v := .int (mi 32)) (C := RX11) (T := TX11) (N := 74) hx hb ha inlX11 hown hK hP 0 mw_at0 rfl 32 (by decide) (ha _ kf_X11_191) (fun _ h9 => h9) rfl dX11_run_96 ?_
        refine lv_topi (fun x_32 ex_32 => ?_)
        have hE := bd_at ex_32 hE
        have u_x_32 := congrArg Int32.toInt ex_32
        have r_x_32 := MB_flows hI
        rw [← ex_32] at r_x_32
        refine lv_icmp_ge (tgt := 114) hx hb dX11_run_99 (by decide) (fun c_33 => ?_) (fun c_33 => ?_)
        · have t_c_33 := Int32.le_iff_toInt_le.mp c_33
          have hE := hE.trans (if_pos c_33)
          refine lv_aload_n hx hb dX11_run_114 rfl (lv_at hl 0 rfl) ?_
          refine lv_dup hx hb dX11_run_115 rfl ?_
          refine va_get (D := D) (ci := 11) (v := .int (mi 4)) (C := RX11) (T := TX11) (N := 74) hx hb ha inlX11 hown hK hP 0 mw_at0 rfl 4 (by decide) (ha _ kf_X11_207) (fun _ h9 => h9) rfl dX11_run_116 ?_
          refine lv_topi (fun x_34 ex_34 => ?_)
          have hE := bd_at ex_34 hE
          have u_x_34 := congrArg Int32.toInt ex_34
          have r_x_34 := MB_tick hI
          rw [← ex_34] at r_x_34
          refine lv_iconst (v := 1) hx hb dX11_run_119 (by decide) ?_
          refine lv_iadd hx hb dX11_run_120 ?_
          refine lv_topi (fun x_35 ex_35 => ?_)
          have hE := bd_at ex_35 hE
          try have t_x_35 := ti_add ex_35 (by omega) (by omega)
          refine va_put (D := D) (ci := 11) (v := .int x_35) (ty := .int) (C := RX11) (T := TX11) (N := 74) hx hb ha inlX11 tyX11 tyX11_ok nmX11 hown hK hP hD hS 0 mw_at0 rfl 4 (by decide) (ha _ kf_X11_207) (fun _ h9 => h9) rfl (by decide +kernel) rfl rfl (Nat.le_of_ble_eq_true rfl) dX11_run_121 (fun H locs hP hD hS => ?_)
          have hP : va_P D vwCl (mw cI cZ h0 mq (upd mi 4 x_35) ma) H := mwP_4 hP
          have hD : va_D A (mw cI cZ h0 mq (upd mi 4 x_35) ma) := mwD_4 hD
          generalize hmi_36 : upd mi 4 x_35 = mi_36 at hP hD
          have hI : MB mi_36 ma := by rw [← hmi_36]; exact MBi_tk hI (by omega) (by omega)
          have hFI : ∀ k, k ∉ ([4, 5, 6, 10, 11, 12, 17, 18, 19, 26, 27, 28, 29, 30, 73] : List Nat) → mi_36 k = mi0 k := fun k hk => by rw [← hmi_36]; exact (if_neg (fun e => hk (by rw [e]; decide))).trans (hFI k hk)
          have hE := bs_at hmi_36 hE
          obtain ⟨x_37, ex_37⟩ : ∃ y : Int32, y = i3 + 1 := ⟨_, rfl⟩
          have hE := bd_at ex_37 hE
          refine lv_iinc (v := x_37) (lv' := [(3, .int x_37), (0, .ref h0), (1, .int n1), (2, .int i2), (4, .int i4)]) hx hb dX11_run_124 hl (k := 3) rfl (by rw [ex_37]; rfl) (by decide) rfl (fun ls hl => ?_)
          try have t_x_37 := ti_add ex_37 (by omega) (by omega)
          refine lv_goto (tgt := 31) hx hb dX11_run_127 (by decide) ?_
          exact ih_31 mi_36 ma i2 x_37 _ _ hP hD hS hI hFI hFA hE ⟨by rw [← hmi_36]; exact ⟨dw_tick hv.1.1 (by show x_35.toInt = (mi 4).toInt + 1; omega) hv.2.1, da_tick hv.1.2 (by show x_35.toInt = (mi 4).toInt + 1; omega) hv.2.2.1⟩, by omega, by omega, by omega, by have tz : (mi_36 4).toInt = x_35.toInt := congrArg Int32.toInt (congrFun hmi_36 4).symm; omega⟩ _ (lv_sub hl [1, 2, 3, 0] rfl) (by omega)
        · have t_c_33 := Int32.lt_iff_toInt_lt.mp (Int32.not_le.mp c_33)
          have hE := hE.trans (if_neg c_33)
          refine lv_aload_n hx hb dX11_run_102 rfl (lv_at hl 0 rfl) ?_
          refine lv_iload hx hb dX11_run_103 (lv_at hl 4 rfl) ?_
          have hFc := va_freeW hD hS hA
          refine va_callv (va_runV (As := [.int i4]) (rest := []) ⟨hx, hb, hml, hown, ha⟩ (m_sends l D cI cJ cZ cO _ h0 mq mi ma ph cl i4 hI (by omega) (by omega) (by omega)) (cwV 1 ha (gaV kl_X11_227 km_X11_sends ks_X11_sends kz_X11 kd_X11_sends) rfl rfl rfl (by decide +kernel) ⟨Nat.le_of_ble_eq_true rfl, Nat.le_of_ble_eq_true rfl⟩) ⟨pw_blind, va_recv hK hP (ci := 11) (q0 := 0) rfl rfl, fun U hU hW => ⟨rfl, pw_start hU hW hP hK hD hN⟩⟩ rfl rfl hl.1 rfl (lv_room (Nat.le_of_ble_eq_true rfl)) dX11_run_105 ⟨Nat.le_of_ble_eq_true rfl, Nat.le_of_ble_eq_true rfl⟩) hS (fun q _ h => hFc q h) hFc (fun u t H1 locs ht hvm hw hB hz1 hk1 hS => ?_)
          obtain ⟨mi_39, ma_40, ⟨hf_41, rr_, hX⟩, hP, hK1, hD1⟩ := hB
          have hE := bo_at hX hE
          rw [ht] at hP
          have hD := hD1.weaken (fun k q _ h => hFc q.1 h)
          clear hD1
          generalize H1 = H at hP hS ⊢
          refine W.widen (k := 0) (n := 0) (Nat.le_refl _) (Nat.le_refl _) ?_
          have hI := hf_41.1
          have hFI : ∀ k, k ∉ ([4, 5, 6, 10, 11, 12, 17, 18, 19, 26, 27, 28, 29, 30, 73] : List Nat) → mi_39 k = mi0 k := fun k hk => (hf_41.2.1 k (fun h => hk (by revert h; exact sub_of (by decide) k))).trans (hFI k hk)
          have hFA : ∀ k, k ∉ ([7, 8, 9, 13, 14, 15, 16, 20, 21, 22, 23, 24, 25, 31, 34, 36, 37, 38, 39, 40, 41, 44, 45, 46, 47, 48, 49, 50, 51, 52, 53, 54, 55, 56, 57, 58, 59, 60, 61, 62, 63, 64, 65, 66, 67, 68, 69, 70, 71, 72] : List Nat) → ma_40 k = ma0 k := fun k hk => (hf_41.2.2 k (fun h => hk (by revert h; exact sub_of (by decide) k))).trans (hFA k hk)
          obtain ⟨x_42, ex_42⟩ : ∃ y : Int32, y = i4 + 1 := ⟨_, rfl⟩
          have hE := bd_at ex_42 hE
          refine lv_iinc (v := x_42) (lv' := [(4, .int x_42), (0, .ref h0), (1, .int n1), (2, .int i2), (3, .int i3)]) hx hb dX11_run_108 hl (k := 4) rfl (by rw [ex_42]; rfl) (by decide) rfl (fun ls hl => ?_)
          try have t_x_42 := ti_add ex_42 (by omega) (by omega)
          refine lv_goto (tgt := 93) hx hb dX11_run_111 (by decide) ?_
          exact ih_93 mi_39 ma_40 i2 i3 x_42 _ _ hP hD hS hI hFI hFA hE ⟨due_keep hv.1 ((hf_41.2.1 4 (by decide))) ((hf_41.2.1 10 (by decide))) ((hf_41.2.1 11 (by decide))) ((hf_41.2.1 12 (by decide))) ((hf_41.2.1 17 (by decide))) ((hf_41.2.1 18 (by decide))) ((hf_41.2.1 19 (by decide))) ((hf_41.2.2 13 (by decide))) ((hf_41.2.2 20 (by decide))) ((hf_41.2.2 40 (by decide))) ((hf_41.2.2 41 (by decide))), by rw [show mi_39 4 = mi 4 from (hf_41.2.1 4 (by decide)), show mi_39 10 = mi 10 from (hf_41.2.1 10 (by decide)), show mi_39 11 = mi 11 from (hf_41.2.1 11 (by decide)), show ma_40 13 = ma 13 from (hf_41.2.2 13 (by decide))]; exact hv.2.1, by rw [show mi_39 4 = mi 4 from (hf_41.2.1 4 (by decide)), show mi_39 17 = mi 17 from (hf_41.2.1 17 (by decide)), show mi_39 18 = mi 18 from (hf_41.2.1 18 (by decide)), show ma_40 20 = ma 20 from (hf_41.2.2 20 (by decide))]; exact hv.2.2.1, by omega, by omega, by omega, by have tz : (mi_39 4).toInt = (mi 4).toInt := congrArg Int32.toInt ((hf_41.2.1 4 (by decide))); omega, by omega, by omega⟩ _ (lv_sub hl [1, 2, 3, 4, 0] rfl) (by omega)
  -- from the entry
  rw [hQP] at JG_t
  have hE := hRES
  unfold x_run at hE
  refine lv_iload_n hx hb dX11_run_0 rfl (lv_at hl 1 rfl) ?_
  refine lv_iconst (v := 1) hx hb dX11_run_1 (by decide) ?_
  refine lv_sipush (v := 20000) hx hb dX11_run_2 (by decide) ?_
  have hFc := va_free (wc := []) hD hS hA [] rfl
  refine va_calli (va_runS (As := [.int n1, .int 1, .int 20000]) (rest := []) ⟨hx, hb, hml, hown, ha⟩ (c_in l D cI cJ cZ cO _ n1 1 20000) (va_cwS 3 ha (gaS kl_X11_187 kt_X11_in kz_X11 kd_X11_in) rfl rfl rfl (by decide +kernel) ⟨Nat.le_of_ble_eq_true rfl, Nat.le_of_ble_eq_true rfl⟩) ⟨pw_blind, fun U hU hW => ⟨rfl, pw_start hU hW pw_P0 hK (pw_D0 (A := A)) hN⟩⟩ rfl rfl hl.1 rfl (lv_room (Nat.le_of_ble_eq_true rfl)) dX11_run_5 ⟨Nat.le_of_ble_eq_true rfl, Nat.le_of_ble_eq_true rfl⟩) hS (fun q _ h => hFc q h) hFc (fun r_43 u t H1 locs ht hvm hw hB hz1 hk1 hS => ?_)
  have hP := va_keep0 hP hk1
  generalize H1 = H at hP hS ⊢
  refine W.widen (k := 0) (n := 0) (Nat.le_refl _) (Nat.le_refl _) ?_
  have hr_43 : r_43 = wi n1 1 20000 := hw
  have hE := bd_at hr_43 hE
  refine lv_if_eq (tgt := 22) hx hb dX11_run_8 (by decide) (fun c_44 => ?_) (fun c_44 => ?_)
  · have t_c_44 := congrArg Int32.toInt c_44
    have hE := hE.trans (if_pos c_44)
    refine lv_iconst (v := (-1)) hx hb dX11_run_22 (by decide) ?_
    exact W.iret (v := (-1)) hx hb hr (fun t ht hW => ⟨⟨(-1), (), rfl, ⟨trivial, _, _, hRES.symm.trans hE⟩, ⟨mi, ma, ⟨⟨hI, fun k hk => (hFI k hk).trans (by rw [hmi0]), fun k hk => (hFA k hk).trans (by rw [hma0]), hU⟩, _, hRES.symm.trans hE⟩, by rw [ht]; exact hP, va_K.moved hW.alike hK, hD⟩⟩, hS.F ht⟩) hS.2.2 dX11_run_23
  · have t_c_44 := mt Int32.toInt_inj.mp c_44
    have hE := hE.trans (if_neg c_44)
    have w_r_43 := wi_ti (by rw [← hr_43]; exact c_44)
    refine lv_aload_n hx hb dX11_run_11 rfl (lv_at hl 0 rfl) ?_
    refine va_get (D := D) (ci := 11) (v := .int (mi 4)) (C := RX11) (T := TX11) (N := 74) hx hb ha inlX11 hown hK hP 0 mw_at0 rfl 4 (by decide) (ha _ kf_X11_207) (fun _ h9 => h9) rfl dX11_run_12 ?_
    refine lv_topi (fun x_45 ex_45 => ?_)
    have hE := bd_at ex_45 hE
    have u_x_45 := congrArg Int32.toInt ex_45
    have r_x_45 := MB_tick hI
    rw [← ex_45] at r_x_45
    refine lv_iload_n hx hb dX11_run_15 rfl (lv_at hl 1 rfl) ?_
    refine lv_iadd hx hb dX11_run_16 ?_
    refine lv_topi (fun x_46 ex_46 => ?_)
    have hE := bd_at ex_46 hE
    try have t_x_46 := ti_add ex_46 (by omega) (by omega)
    refine lv_ldc (v := 100000000) hx hb hown (ha _ kk_X11_210) dX11_run_17 ?_
    refine lv_icmp_le (tgt := 24) hx hb dX11_run_19 (by decide) (fun c_47 => ?_) (fun c_47 => ?_)
    · have t_c_47 := Int32.le_iff_toInt_le.mp c_47
      have hE := hE.trans (if_pos c_47)
      refine lv_aload_n hx hb dX11_run_24 rfl (lv_at hl 0 rfl) ?_
      refine va_get (D := D) (ci := 11) (v := .int (mi 26)) (C := RX11) (T := TX11) (N := 74) hx hb ha inlX11 hown hK hP 0 mw_at0 rfl 26 (by decide) (ha _ kf_X11_201) (fun _ h9 => h9) rfl dX11_run_25 ?_
      refine lv_topi (fun x_48 ex_48 => ?_)
      have hE := bd_at ex_48 hE
      have u_x_48 := congrArg Int32.toInt ex_48
      refine lv_istore_n (lv' := [(2, .int x_48), (0, .ref h0), (1, .int n1)]) hx hb dX11_run_28 rfl hl (by decide) rfl (fun ls hl => ?_)
      refine lv_iconst (v := 0) hx hb dX11_run_29 (by decide) ?_
      refine lv_istore_n (lv' := [(3, .int 0), (2, .int x_48), (0, .ref h0), (1, .int n1)]) hx hb dX11_run_30 rfl hl (by decide) rfl (fun ls hl => ?_)
      exact (JG_t 3000000).1 mi ma x_48 (0 : Int32) _ _ hP hD hS hI hFI hFA hE ⟨hU, by omega, by omega, by omega, by omega⟩ _ (lv_sub hl [2, 3, 1, 0] rfl) (by omega)
    · have t_c_47 := Int32.lt_iff_toInt_lt.mp (Int32.not_le.mp c_47)
      have hE := hE.trans (if_neg c_47)
      refine lv_iconst (v := (-1)) hx hb dX11_run_22 (by decide) ?_
      exact W.iret (v := (-1)) hx hb hr (fun t ht hW => ⟨⟨(-1), (), rfl, ⟨trivial, _, _, hRES.symm.trans hE⟩, ⟨mi, ma, ⟨⟨hI, fun k hk => (hFI k hk).trans (by rw [hmi0]), fun k hk => (hFA k hk).trans (by rw [hma0]), hU⟩, _, hRES.symm.trans hE⟩, by rw [ht]; exact hP, va_K.moved hW.alike hK, hD⟩⟩, hS.F ht⟩) hS.2.2 dX11_run_23
